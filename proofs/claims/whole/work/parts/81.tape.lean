/-! The tape: end, feed. -/
section
variable {n : Nat} {K : Nat → Nat × Nat} {P : Nat → Nat → Nat} {I J : Nat → Nat → Int32} {L : Nat → Nat → Int64} {Z : zT} {k : Nat}
theorem CI_tape {tp : List Int} (ok : okZ k Z) (C : CI (n, K, P, I, L) Z) (hb : ∀ b, b ≠ 1 → b ≠ 2 → J b = I b) (h5 : J 1 5 = I 1 5) (h1 : J 1 1 = nI tp.length) (h2 : ∀ i x, tp[i]? = some x → J 2 i = zI x) : CI (n, K, P, J, L) (zW Z, zM Z, zR Z, tp) := by
  have C2 : CI (n, K, P, fun b => if b = 1 ∨ b = 2 then I b else J b, L) Z := CI_congr (I := I) ok (fun b h => ⟨by
    show (if b = 1 ∨ b = 2 then I b else J b) = I b
    by_cases w : b = 1 ∨ b = 2
    · rw [if_pos w]
    · rw [if_neg w]; exact hb b (by omega) (by omega), rfl⟩) C
  obtain ⟨⟨c1, c2⟩, c3, ⟨c5, c6⟩, ⟨c7, c8⟩, -, -⟩ := C
  refine ⟨⟨?_, c2⟩, c3, ⟨fun i hi => ?_, c6⟩, ⟨h5.trans c7, fun r ru hr => ⟨cR_congr (fun b q1 q2 => hb b ?_ ?_) (c8 r ru hr).1, (c8 r ru hr).2⟩⟩, h1, h2⟩
  · refine cW_congr (fun b h => ⟨hb b ?_ ?_, rfl⟩) (fun j B hB b q1 q2 => ⟨hb b ?_ ?_, rfl⟩) c1
    · rcases c2 with e | e
      · change P 12 0 = 13 at e
        change (P 12 0 ≤ b ∧ b ≤ P 12 0 + 10) ∨ _ at h
        omega
      · have := e.1
        change 171 < P 12 0 at this
        change (P 12 0 ≤ b ∧ b ≤ P 12 0 + 10) ∨ _ at h
        omega
    · rcases c2 with e | e
      · change P 12 0 = 13 at e
        change (P 12 0 ≤ b ∧ b ≤ P 12 0 + 10) ∨ _ at h
        omega
      · have := e.1
        change 171 < P 12 0 at this
        change (P 12 0 ≤ b ∧ b ≤ P 12 0 + 10) ∨ _ at h
        omega
    · have hj := (List.getElem?_eq_some_iff.mp hB).1
      change j < (wK (zW Z)).length at hj
      obtain ⟨i, hi, e⟩ := c3.1 j (by have := ok.1.2.2.2.1.1; omega)
      change P 27 j = 31 + 3 * i at e
      change P 27 j ≤ b at q1
      omega
    · have hj := (List.getElem?_eq_some_iff.mp hB).1
      change j < (wK (zW Z)).length at hj
      obtain ⟨i, hi, e⟩ := c3.1 j (by have := ok.1.2.2.2.1.1; omega)
      change P 27 j = 31 + 3 * i at e
      change P 27 j ≤ b at q1
      omega
  · have hm := c5 i hi
    change cM n P I L i (zM Z i) at hm
    show cM n P J L i (zM Z i)
    cases hz : zM Z i with
    | none => rw [hz] at hm; exact hm
    | some W =>
      rw [hz] at hm
      obtain ⟨⟨m1, m2⟩, m3, m4, m5⟩ := hm
      refine ⟨⟨m1, m2⟩, cW_congr (fun b h => ⟨hb b ?_ ?_, rfl⟩) (fun j B hB b q1 q2 => ⟨hb b ?_ ?_, rfl⟩) m3, m4, m5⟩
      · rcases m4 with e | e
        · omega
        · have := e.1
          omega
      · rcases m4 with e | e
        · omega
        · have := e.1
          omega
      · have hj := (List.getElem?_eq_some_iff.mp hB).1
        rw [m5 j (by have := (ok.2.1 i W hz).2.2.2.1.1; omega)] at q1
        omega
      · have hj := (List.getElem?_eq_some_iff.mp hB).1
        rw [m5 j (by have := (ok.2.1 i W hz).2.2.2.1.1; omega)] at q1
        omega
  · have := (c8 r ru hr).2.1
    change 171 < P 11 r at this
    change P 11 r ≤ b at q1
    omega
  · have := (c8 r ru hr).2.1
    change 171 < P 11 r at this
    change P 11 r ≤ b at q1
    omega
theorem RI_tape {tp : List Int} (ok : okZ k Z) (R : RI I Z) (hb : ∀ b, b ≠ 123 → b ≠ 150 → J b = I b) (h23 : J 123 51 = I 123 51 ∧ J 123 31 = I 123 31 ∧ J 123 36 = I 123 36) (h1 : J 123 27 = nI tp.length) (h2 : ∀ i x, tp[i]? = some x → J 150 i = zI x) : RI J (zW Z, zM Z, zR Z, tp) := by
  obtain ⟨r1, r2, ⟨r3, r4⟩, -, r7⟩ := R
  have hl : ∀ r i, i < lenR r → J r i = I r i := fun r i hi => by
    rw [hb r (by intro e; rw [e] at hi; exact Nat.not_lt_zero i hi) (by intro e; rw [e] at hi; exact Nat.not_lt_zero i hi)]
  refine ⟨rW_congr ok.1 hl h23.1 r1, fun i hi => ?_, ⟨h23.2.1.trans r3, fun r ru hr => rR_congr (fun b q1 q2 => hb b (by omega) (by omega)) (r4 r ru hr)⟩, ⟨h1, h2⟩, h23.2.2.trans r7.1, (congrFun (hb 142 (by decide) (by decide)) 0).trans r7.2⟩
  have hm := r2 i hi
  show rM J i (zM Z i)
  have e0 : J 170 = I 170 := hb 170 (by decide) (by decide)
  have e1 : J 171 = I 171 := hb 171 (by decide) (by decide)
  cases hz : zM Z i with
  | none => rw [hz] at hm; show J 171 i = _; rw [e1]; exact hm
  | some W =>
    rw [hz] at hm
    unfold rM imG
    rw [e0, e1]
    exact hm
theorem Inv_tape {I1 : Nat → Nat → Int32} {tp : List Int} (hG : GW K P) (hF : Fr (n, K, P, I, L)) (ok : okZ k Z) (C : CI (n, K, P, I, L) Z) (R : RI I Z)
    (hb : ∀ b, b ≠ 1 → b ≠ 2 → I1 b = I b) (h5 : I1 1 5 = I 1 5) (h1 : I1 1 1 = nI tp.length) (h2 : ∀ i x, tp[i]? = some x → I1 2 i = zI x)
    (gb : ∀ b, b ≠ 123 → b ≠ 150 → J b = I1 b) (g23 : J 123 51 = I1 123 51 ∧ J 123 31 = I1 123 31 ∧ J 123 36 = I1 123 36) (g1 : J 123 27 = nI tp.length) (g2 : ∀ i x, tp[i]? = some x → J 150 i = zI x)
    (o1 : tp.length ≤ 400) (o2 : ∀ x ∈ tp, -128 ≤ x ∧ x ≤ 127) : Inv (k + 1) (n, K, P, J, L) := by
  have R0 : RI I1 Z := RI_cls ok (fun b q1 q2 => hb b (by omega) (by omega)) R
  have ok2 := okZ_mono (Nat.le_succ k) ok
  have ok3 : okZ (k + 1) (zW Z, zM Z, zR Z, tp) := ⟨ok2.1, ok2.2.1, ok2.2.2.1, o1, o2⟩
  exact Inv_ref (I := I1) hG hF ok3 (CI_tape ok C hb h5 h1 h2) (RI_tape ok R0 gb g23 g1 g2) (fun b h => gb b (by omega) (by omega)) (fun _ _ => rfl)
end
theorem q_end {k : Nat} (hk : k < 512) : st_end (Inv k) (Inv (k + 1)) := by
  intro h x hI
  obtain ⟨n, K, P, I, L⟩ := h
  obtain ⟨⟨G, F⟩, Z, ok, C, R⟩ := id hI
  change RI I Z at R
  have O := okZ_S ok
  have o1 := O.1
  have hA := okZ_A ok
  have hh := okZ_h ok
  have cs := CI_S C
  have ca := CI_A C
  have rs := RI_S R
  have ra := RI_A R
  generalize hS : wS (zW Z) = S at O o1 hA cs ca rs ra
  generalize hAA : wA (zW Z) = A at hA hh ca ra
  have t1 : I 1 1 = nI (zP Z).length := C.2.2.2.2.1
  have v1 : I 123 27 = nI (zP Z).length := R.2.2.2.1.1
  have hl := ok.2.2.2.1
  obtain ⟨f, hf1, hf2, rfl⟩ := zC x
  by_cases hb : 0 ≤ f ∧ f ≤ (zP Z).length
  · obtain ⟨m, rfl⟩ : ∃ m : Nat, f = m := ⟨f.toNat, by omega⟩
    rw [zI_nat]
    refine ⟨nI m, (n, K, P, xu I 1 1 (nI m), L), (n, K, P, xu (xu I 1 1 (nI m)) 123 27 (nI m), L), ?_, G, ?_, ?_⟩
    · unfold oX_end mX11_end
      simp (disch := omega) only [↓reduceIte, Option.bind_some, Option.some.injEq, Prod.mk.injEq, and_self, and_true, true_and, eq_self, reduceCtorEq, not_false_eq_true, not_true_eq_false, or_true, true_or, or_false, false_or, bft, nAdd, nMul, nSub, nDiv, nRem, nAm1, nIx, nIn, bI_z, bI_o, ite_b1, ite_b0, zI_add, zI_sub, li0, li1, li2, li3, li4, li5, li6, li7, li8, li9, li10, li11, li12, li13, li14, li15, li16, li17, li18, li19, li20, li21, li22, li23, li24, li25, li26, li27, li28, li29, li30, li31, li32, li33, li34, li35, li36, li37, li40, li42, li43, li45, li47, li48, li57, li59, li60, li61, li62, li64, li80, li91, li93, li97, li99, li100, li122, li182, li199, li255, li300, li380, li400, li999, li1000, li3640, li4100, li65536, li99999, ln1, ln2, ln3, ln100, ln100000, tLe, fLe, tLt, fLt, tEq, fEq, zLe_t, zLe_f, zLt_t, zLt_f, zEq_t, zEq_f, nzLe_t, nzLe_f, znLe_t, znLe_f, nzLt_t, nzLt_f, znLt_t, znLt_f, nzEq_t, nzEq_f, znEq_t, znEq_f, t1, Option.map_some]
    · unfold oM_end mX12_end
      simp (disch := omega) only [↓reduceIte, Option.bind_some, Option.some.injEq, Prod.mk.injEq, and_self, and_true, true_and, eq_self, reduceCtorEq, not_false_eq_true, not_true_eq_false, or_true, true_or, or_false, false_or, bft, nAdd, nMul, nSub, nDiv, nRem, nAm1, nIx, nIn, bI_z, bI_o, ite_b1, ite_b0, zI_add, zI_sub, li0, li1, li2, li3, li4, li5, li6, li7, li8, li9, li10, li11, li12, li13, li14, li15, li16, li17, li18, li19, li20, li21, li22, li23, li24, li25, li26, li27, li28, li29, li30, li31, li32, li33, li34, li35, li36, li37, li40, li42, li43, li45, li47, li48, li57, li59, li60, li61, li62, li64, li80, li91, li93, li97, li99, li100, li122, li182, li199, li255, li300, li380, li400, li999, li1000, li3640, li4100, li65536, li99999, ln1, ln2, ln3, ln100, ln100000, tLe, fLe, tLt, fLt, tEq, fEq, zLe_t, zLe_f, zLt_t, zLt_f, zEq_t, zEq_f, nzLe_t, nzLe_f, znLe_t, znLe_f, nzLt_t, nzLt_f, znLt_t, znLt_f, nzEq_t, nzEq_f, znEq_t, znEq_f, xu_s, xu_r, xu_c, xrow_at, xrow_r, v1, Option.map_some]
    · have hlt : ((zP Z).take m).length = m := by rw [List.length_take]; omega
      have hg : ∀ i x, ((zP Z).take m)[i]? = some x → (zP Z)[i]? = some x := fun i x hx => by
        rw [List.getElem?_take] at hx
        split at hx
        · exact hx
        · exact absurd hx (by simp)
      refine Inv_tape (I1 := xu I 1 1 (nI m)) (tp := (zP Z).take m) G F ok C R (fun b h1 _ => xu_r h1) (xu_c (by decide)) (by rw [xu_s, hlt]) (fun i x hx => ?_) (fun b h1 _ => xu_r h1) ⟨xu_c (by decide), xu_c (by decide), xu_c (by decide)⟩ (by rw [xu_s, hlt]) (fun i x hx => ?_) (by omega) (fun x hx => ok.2.2.2.2 x (List.mem_of_mem_take hx))
      · rw [xu_r (by decide)]; exact C.2.2.2.2.2 i x (hg i x hx)
      · rw [xu_r (by decide), xu_r (by decide)]; exact R.2.2.2.1.2 i x (hg i x hx)
  · refine ⟨-1, (n, K, P, I, L), (n, K, P, I, L), ?_, G, ?_, Inv_q hI (fun _ _ => rfl)⟩
    · unfold oX_end mX11_end
      by_cases hc : f < 0
      · simp (disch := omega) only [↓reduceIte, Option.bind_some, Option.some.injEq, Prod.mk.injEq, and_self, and_true, true_and, eq_self, reduceCtorEq, not_false_eq_true, not_true_eq_false, or_true, true_or, or_false, false_or, bft, nAdd, nMul, nSub, nDiv, nRem, nAm1, nIx, nIn, bI_z, bI_o, ite_b1, ite_b0, zI_add, zI_sub, li0, li1, li2, li3, li4, li5, li6, li7, li8, li9, li10, li11, li12, li13, li14, li15, li16, li17, li18, li19, li20, li21, li22, li23, li24, li25, li26, li27, li28, li29, li30, li31, li32, li33, li34, li35, li36, li37, li40, li42, li43, li45, li47, li48, li57, li59, li60, li61, li62, li64, li80, li91, li93, li97, li99, li100, li122, li182, li199, li255, li300, li380, li400, li999, li1000, li3640, li4100, li65536, li99999, ln1, ln2, ln3, ln100, ln100000, tLe, fLe, tLt, fLt, tEq, fEq, zLe_t, zLe_f, zLt_t, zLt_f, zEq_t, zEq_f, nzLe_t, nzLe_f, znLe_t, znLe_f, nzLt_t, nzLt_f, znLt_t, znLt_f, nzEq_t, nzEq_f, znEq_t, znEq_f, Option.map_some]
      · simp (disch := omega) only [↓reduceIte, Option.bind_some, Option.some.injEq, Prod.mk.injEq, and_self, and_true, true_and, eq_self, reduceCtorEq, not_false_eq_true, not_true_eq_false, or_true, true_or, or_false, false_or, bft, nAdd, nMul, nSub, nDiv, nRem, nAm1, nIx, nIn, bI_z, bI_o, ite_b1, ite_b0, zI_add, zI_sub, li0, li1, li2, li3, li4, li5, li6, li7, li8, li9, li10, li11, li12, li13, li14, li15, li16, li17, li18, li19, li20, li21, li22, li23, li24, li25, li26, li27, li28, li29, li30, li31, li32, li33, li34, li35, li36, li37, li40, li42, li43, li45, li47, li48, li57, li59, li60, li61, li62, li64, li80, li91, li93, li97, li99, li100, li122, li182, li199, li255, li300, li380, li400, li999, li1000, li3640, li4100, li65536, li99999, ln1, ln2, ln3, ln100, ln100000, tLe, fLe, tLt, fLt, tEq, fEq, zLe_t, zLe_f, zLt_t, zLt_f, zEq_t, zEq_f, nzLe_t, nzLe_f, znLe_t, znLe_f, nzLt_t, nzLt_f, znLt_t, znLt_f, nzEq_t, nzEq_f, znEq_t, znEq_f, t1, Option.map_some]
    · unfold oM_end mX12_end
      by_cases hc : f < 0
      · simp (disch := omega) only [↓reduceIte, Option.bind_some, Option.some.injEq, Prod.mk.injEq, and_self, and_true, true_and, eq_self, reduceCtorEq, not_false_eq_true, not_true_eq_false, or_true, true_or, or_false, false_or, bft, nAdd, nMul, nSub, nDiv, nRem, nAm1, nIx, nIn, bI_z, bI_o, ite_b1, ite_b0, zI_add, zI_sub, li0, li1, li2, li3, li4, li5, li6, li7, li8, li9, li10, li11, li12, li13, li14, li15, li16, li17, li18, li19, li20, li21, li22, li23, li24, li25, li26, li27, li28, li29, li30, li31, li32, li33, li34, li35, li36, li37, li40, li42, li43, li45, li47, li48, li57, li59, li60, li61, li62, li64, li80, li91, li93, li97, li99, li100, li122, li182, li199, li255, li300, li380, li400, li999, li1000, li3640, li4100, li65536, li99999, ln1, ln2, ln3, ln100, ln100000, tLe, fLe, tLt, fLt, tEq, fEq, zLe_t, zLe_f, zLt_t, zLt_f, zEq_t, zEq_f, nzLe_t, nzLe_f, znLe_t, znLe_f, nzLt_t, nzLt_f, znLt_t, znLt_f, nzEq_t, nzEq_f, znEq_t, znEq_f, Option.map_some]
      · simp (disch := omega) only [↓reduceIte, Option.bind_some, Option.some.injEq, Prod.mk.injEq, and_self, and_true, true_and, eq_self, reduceCtorEq, not_false_eq_true, not_true_eq_false, or_true, true_or, or_false, false_or, bft, nAdd, nMul, nSub, nDiv, nRem, nAm1, nIx, nIn, bI_z, bI_o, ite_b1, ite_b0, zI_add, zI_sub, li0, li1, li2, li3, li4, li5, li6, li7, li8, li9, li10, li11, li12, li13, li14, li15, li16, li17, li18, li19, li20, li21, li22, li23, li24, li25, li26, li27, li28, li29, li30, li31, li32, li33, li34, li35, li36, li37, li40, li42, li43, li45, li47, li48, li57, li59, li60, li61, li62, li64, li80, li91, li93, li97, li99, li100, li122, li182, li199, li255, li300, li380, li400, li999, li1000, li3640, li4100, li65536, li99999, ln1, ln2, ln3, ln100, ln100000, tLe, fLe, tLt, fLt, tEq, fEq, zLe_t, zLe_f, zLt_t, zLt_f, zEq_t, zEq_f, nzLe_t, nzLe_f, znLe_t, znLe_f, nzLt_t, nzLt_f, znLt_t, znLt_f, nzEq_t, nzEq_f, znEq_t, znEq_f, v1, Option.map_some]
theorem ap_go {x : Int32} : ∀ (f m : Nat) (tp : List Int) (I : Nat → Nat → Int32), m < f → m ≤ 4 → tp.length + m ≤ 400 → I 1 1 = nI tp.length → (∀ i y, tp[i]? = some y → I 2 i = zI y) → ∃ J, mX11_append_3 f I x (zI (8 * m - 8)) = some J ∧ J 1 1 = nI (tp ++ bysF x m).length ∧ (∀ i y, (tp ++ bysF x m)[i]? = some y → J 2 i = zI y) ∧ (∀ b, b ≠ 1 → b ≠ 2 → J b = I b) ∧ J 1 5 = I 1 5
  | 0, m, tp, I, h1, _, _, _, _ => absurd h1 (by omega)
  | f + 1, m, tp, I, h1, h2, h3, h4, h5 => by
    rw [mX11_append_3]
    cases m with
    | zero =>
      refine ⟨I, ?_, by rw [bysF, List.append_nil]; exact h4, by rw [bysF, List.append_nil]; exact h5, fun _ _ _ => rfl, rfl⟩
      simp (disch := omega) only [↓reduceIte, Option.bind_some, Option.some.injEq, Prod.mk.injEq, and_self, and_true, true_and, eq_self, reduceCtorEq, not_false_eq_true, not_true_eq_false, or_true, true_or, or_false, false_or, bft, nAdd, nMul, nSub, nDiv, nRem, nAm1, nIx, nIn, bI_z, bI_o, ite_b1, ite_b0, zI_add, zI_sub, li0, li1, li2, li3, li4, li5, li6, li7, li8, li9, li10, li11, li12, li13, li14, li15, li16, li17, li18, li19, li20, li21, li22, li23, li24, li25, li26, li27, li28, li29, li30, li31, li32, li33, li34, li35, li36, li37, li40, li42, li43, li45, li47, li48, li57, li59, li60, li61, li62, li64, li80, li91, li93, li97, li99, li100, li122, li182, li199, li255, li300, li380, li400, li999, li1000, li3640, li4100, li65536, li99999, ln1, ln2, ln3, ln100, ln100000, tLe, fLe, tLt, fLt, tEq, fEq, zLe_t, zLe_f, zLt_t, zLt_f, zEq_t, zEq_f, nzLe_t, nzLe_f, znLe_t, znLe_f, nzLt_t, nzLt_f, znLt_t, znLt_f, nzEq_t, nzEq_f, znEq_t, znEq_f]
    | succ m =>
      have e8 : zI (8 * ((m + 1 : Nat) : Int) - 8) = nI (8 * m) := by rw [nz]; congr 1; omega
      have e9 : nI (8 * m) + (-8) = zI (8 * (m : Int) - 8) := by
        rw [nz, show (-8 : Int32) = zI (-8) by decide +kernel, zI_add]
        congr 1
      obtain ⟨J, j1, j2, j3, j4, j5⟩ := ap_go (x := x) f m (tp ++ [byB x m]) (xu (xu I 2 tp.length (zI (byB x m))) 1 1 (nI (tp.length + 1))) (by omega) (by omega) (by simp; omega) (by rw [xu_s]; simp) (fun i y hy => by
        rw [xu_r (by decide)]
        rcases getE_app hy with ⟨q1, q2⟩ | ⟨rfl, rfl⟩
        · rw [xu_c (by omega)]; exact h5 i y q2
        · exact xu_s)
      rw [List.append_assoc] at j2 j3
      refine ⟨J, ?_, j2, j3, fun b q1 q2 => by rw [j4 b q1 q2, xu_r q1, xu_r q2], by rw [j5, xu_c (by decide), xu_r (by decide)]⟩
      rw [e8, e9, ← j1, xi2b_2, byB_eq, h4]
      simp (disch := omega) only [↓reduceIte, Option.bind_some, Option.some.injEq, Prod.mk.injEq, and_self, and_true, true_and, eq_self, reduceCtorEq, not_false_eq_true, not_true_eq_false, or_true, true_or, or_false, false_or, bft, nAdd, nMul, nSub, nDiv, nRem, nAm1, nIx, nIn, bI_z, bI_o, ite_b1, ite_b0, zI_add, zI_sub, li0, li1, li2, li3, li4, li5, li6, li7, li8, li9, li10, li11, li12, li13, li14, li15, li16, li17, li18, li19, li20, li21, li22, li23, li24, li25, li26, li27, li28, li29, li30, li31, li32, li33, li34, li35, li36, li37, li40, li42, li43, li45, li47, li48, li57, li59, li60, li61, li62, li64, li80, li91, li93, li97, li99, li100, li122, li182, li199, li255, li300, li380, li400, li999, li1000, li3640, li4100, li65536, li99999, ln1, ln2, ln3, ln100, ln100000, tLe, fLe, tLt, fLt, tEq, fEq, zLe_t, zLe_f, zLt_t, zLt_f, zEq_t, zEq_f, nzLe_t, nzLe_f, znLe_t, znLe_f, nzLt_t, nzLt_f, znLt_t, znLt_f, nzEq_t, nzEq_f, znEq_t, znEq_f, xu_s, xu_r, xu_c, xrow_at, xrow_r, h4]
theorem append_ok {x : Int32} {tp : List Int} {I : Nat → Nat → Int32} (h3 : tp.length + 4 ≤ 400) (h4 : I 1 1 = nI tp.length) (h5 : ∀ i y, tp[i]? = some y → I 2 i = zI y) : ∃ J, mX11_append I x = some J ∧ J 1 1 = nI (tp ++ bysF x 4).length ∧ (∀ i y, (tp ++ bysF x 4)[i]? = some y → J 2 i = zI y) ∧ (∀ b, b ≠ 1 → b ≠ 2 → J b = I b) ∧ J 1 5 = I 1 5 :=
  ap_go xf 4 tp I (by unfold xf; omega) (by omega) h3 h4 h5
theorem put_go {x : Int32} : ∀ (f m : Nat) (tp : List Int) (I : Nat → Nat → Int32), m < f → m ≤ 4 → tp.length + m ≤ 400 → I 123 27 = nI tp.length → (∀ i y, tp[i]? = some y → I 150 i = zI y) → ∃ J, mX12_put_3 f I x (zI (8 * m - 8)) = some J ∧ J 123 27 = nI (tp ++ bysF x m).length ∧ (∀ i y, (tp ++ bysF x m)[i]? = some y → J 150 i = zI y) ∧ (∀ b, b ≠ 123 → b ≠ 150 → J b = I b) ∧ ∀ i, i ≠ 27 → J 123 i = I 123 i
  | 0, m, tp, I, h1, _, _, _, _ => absurd h1 (by omega)
  | f + 1, m, tp, I, h1, h2, h3, h4, h5 => by
    rw [mX12_put_3]
    cases m with
    | zero =>
      refine ⟨I, ?_, by rw [bysF, List.append_nil]; exact h4, by rw [bysF, List.append_nil]; exact h5, fun _ _ _ => rfl, fun _ _ => rfl⟩
      simp (disch := omega) only [↓reduceIte, Option.bind_some, Option.some.injEq, Prod.mk.injEq, and_self, and_true, true_and, eq_self, reduceCtorEq, not_false_eq_true, not_true_eq_false, or_true, true_or, or_false, false_or, bft, nAdd, nMul, nSub, nDiv, nRem, nAm1, nIx, nIn, bI_z, bI_o, ite_b1, ite_b0, zI_add, zI_sub, li0, li1, li2, li3, li4, li5, li6, li7, li8, li9, li10, li11, li12, li13, li14, li15, li16, li17, li18, li19, li20, li21, li22, li23, li24, li25, li26, li27, li28, li29, li30, li31, li32, li33, li34, li35, li36, li37, li40, li42, li43, li45, li47, li48, li57, li59, li60, li61, li62, li64, li80, li91, li93, li97, li99, li100, li122, li182, li199, li255, li300, li380, li400, li999, li1000, li3640, li4100, li65536, li99999, ln1, ln2, ln3, ln100, ln100000, tLe, fLe, tLt, fLt, tEq, fEq, zLe_t, zLe_f, zLt_t, zLt_f, zEq_t, zEq_f, nzLe_t, nzLe_f, znLe_t, znLe_f, nzLt_t, nzLt_f, znLt_t, znLt_f, nzEq_t, nzEq_f, znEq_t, znEq_f]
    | succ m =>
      have e8 : zI (8 * ((m + 1 : Nat) : Int) - 8) = nI (8 * m) := by rw [nz]; congr 1; omega
      have e9 : nI (8 * m) + (-8) = zI (8 * (m : Int) - 8) := by
        rw [nz, show (-8 : Int32) = zI (-8) by decide +kernel, zI_add]
        congr 1
      obtain ⟨J, j1, j2, j3, j4, j5⟩ := put_go (x := x) f m (tp ++ [byB x m]) (xu (xu I 150 tp.length (zI (byB x m))) 123 27 (nI (tp.length + 1))) (by omega) (by omega) (by simp; omega) (by rw [xu_s]; simp) (fun i y hy => by
        rw [xu_r (by decide)]
        rcases getE_app hy with ⟨q1, q2⟩ | ⟨rfl, rfl⟩
        · rw [xu_c (by omega)]; exact h5 i y q2
        · exact xu_s)
      rw [List.append_assoc] at j2 j3
      refine ⟨J, ?_, j2, j3, fun b q1 q2 => by rw [j4 b q1 q2, xu_r q1, xu_r q2], fun i hi => by rw [j5 i hi, xu_c hi, xu_r (by decide)]⟩
      rw [e8, e9, ← j1, xi2b_2, byte_sh x m (by omega), byB_eq, h4]
      simp (disch := omega) only [↓reduceIte, Option.bind_some, Option.some.injEq, Prod.mk.injEq, and_self, and_true, true_and, eq_self, reduceCtorEq, not_false_eq_true, not_true_eq_false, or_true, true_or, or_false, false_or, bft, nAdd, nMul, nSub, nDiv, nRem, nAm1, nIx, nIn, bI_z, bI_o, ite_b1, ite_b0, zI_add, zI_sub, li0, li1, li2, li3, li4, li5, li6, li7, li8, li9, li10, li11, li12, li13, li14, li15, li16, li17, li18, li19, li20, li21, li22, li23, li24, li25, li26, li27, li28, li29, li30, li31, li32, li33, li34, li35, li36, li37, li40, li42, li43, li45, li47, li48, li57, li59, li60, li61, li62, li64, li80, li91, li93, li97, li99, li100, li122, li182, li199, li255, li300, li380, li400, li999, li1000, li3640, li4100, li65536, li99999, ln1, ln2, ln3, ln100, ln100000, tLe, fLe, tLt, fLt, tEq, fEq, zLe_t, zLe_f, zLt_t, zLt_f, zEq_t, zEq_f, nzLe_t, nzLe_f, znLe_t, znLe_f, nzLt_t, nzLt_f, znLt_t, znLt_f, nzEq_t, nzEq_f, znEq_t, znEq_f, xu_s, xu_r, xu_c, xrow_at, xrow_r, h4]
theorem put_ok {x : Int32} {tp : List Int} {I : Nat → Nat → Int32} (h3 : tp.length + 4 ≤ 400) (h4 : I 123 27 = nI tp.length) (h5 : ∀ i y, tp[i]? = some y → I 150 i = zI y) : ∃ J, mX12_put I x = some J ∧ J 123 27 = nI (tp ++ bysF x 4).length ∧ (∀ i y, (tp ++ bysF x 4)[i]? = some y → J 150 i = zI y) ∧ (∀ b, b ≠ 123 → b ≠ 150 → J b = I b) ∧ ∀ i, i ≠ 27 → J 123 i = I 123 i :=
  put_go xf 4 tp I (by unfold xf; omega) (by omega) h3 h4 h5
theorem bys_len (x : Int32) : (bysF x 4).length = 4 := rfl
theorem bys_rng (x : Int32) : ∀ y ∈ bysF x 4, -128 ≤ y ∧ y ≤ 127 := by
  intro y hy
  simp [bysF] at hy
  rcases hy with rfl | rfl | rfl | rfl <;> exact byB_rng _ _
theorem q_feed {k : Nat} (hk : k < 512) : st_feed (Inv k) (Inv (k + 1)) := by
  intro h a b c d e hI
  obtain ⟨n, K, P, I, L⟩ := h
  obtain ⟨⟨G, F⟩, Z, ok, C, R⟩ := id hI
  change RI I Z at R
  have O := okZ_S ok
  have o1 := O.1
  have hA := okZ_A ok
  have hh := okZ_h ok
  have cs := CI_S C
  have ca := CI_A C
  have rs := RI_S R
  have ra := RI_A R
  generalize hS : wS (zW Z) = S at O o1 hA cs ca rs ra
  generalize hAA : wA (zW Z) = A at hA hh ca ra
  have t1 : I 1 1 = nI (zP Z).length := C.2.2.2.2.1
  have v1 : I 123 27 = nI (zP Z).length := R.2.2.2.1.1
  have hl := ok.2.2.2.1
  by_cases hb : (zP Z).length + 20 ≤ 400
  · obtain ⟨J1, a1, a2, a3, a4, a5⟩ := append_ok (x := a) (by omega) t1 C.2.2.2.2.2
    obtain ⟨J2, b1, b2, b3, b4, b5⟩ := append_ok (x := b) (by simp [bys_len]; omega) a2 a3
    obtain ⟨J3, c1, c2, c3, c4, c5⟩ := append_ok (x := c) (by simp [bys_len]; omega) b2 b3
    obtain ⟨J4, d1, d2, d3, d4, d5⟩ := append_ok (x := d) (by simp [bys_len]; omega) c2 c3
    obtain ⟨J5, e1, e2, e3, e4, e5⟩ := append_ok (x := e) (by simp [bys_len]; omega) d2 d3
    have f4 : ∀ b, b ≠ 1 → b ≠ 2 → J5 b = I b := fun b h1 h2 => by rw [e4 b h1 h2, d4 b h1 h2, c4 b h1 h2, b4 b h1 h2, a4 b h1 h2]
    have g1 : J5 123 27 = nI (zP Z).length := by rw [f4 123 (by decide) (by decide)]; exact v1
    have g2 : ∀ i x, (zP Z)[i]? = some x → J5 150 i = zI x := by rw [f4 150 (by decide) (by decide)]; exact R.2.2.2.1.2
    obtain ⟨H1, p1, p2, p3, p4, p5⟩ := put_ok (x := a) (by omega) g1 g2
    obtain ⟨H2, q1, q2, q3, q4, q5⟩ := put_ok (x := b) (by simp [bys_len]; omega) p2 p3
    obtain ⟨H3, r1, r2, r3, r4, r5⟩ := put_ok (x := c) (by simp [bys_len]; omega) q2 q3
    obtain ⟨H4, s1, s2, s3, s4, s5⟩ := put_ok (x := d) (by simp [bys_len]; omega) r2 r3
    obtain ⟨H5, u1, u2, u3, u4, u5⟩ := put_ok (x := e) (by simp [bys_len]; omega) s2 s3
    refine ⟨J5 1 1, (n, K, P, J5, L), (n, K, P, H5, L), ?_, G, ?_, ?_⟩
    · unfold oX_feed mX11_feed
      simp (disch := omega) only [↓reduceIte, Option.bind_some, Option.some.injEq, Prod.mk.injEq, and_self, and_true, true_and, eq_self, reduceCtorEq, not_false_eq_true, not_true_eq_false, or_true, true_or, or_false, false_or, bft, nAdd, nMul, nSub, nDiv, nRem, nAm1, nIx, nIn, bI_z, bI_o, ite_b1, ite_b0, zI_add, zI_sub, li0, li1, li2, li3, li4, li5, li6, li7, li8, li9, li10, li11, li12, li13, li14, li15, li16, li17, li18, li19, li20, li21, li22, li23, li24, li25, li26, li27, li28, li29, li30, li31, li32, li33, li34, li35, li36, li37, li40, li42, li43, li45, li47, li48, li57, li59, li60, li61, li62, li64, li80, li91, li93, li97, li99, li100, li122, li182, li199, li255, li300, li380, li400, li999, li1000, li3640, li4100, li65536, li99999, ln1, ln2, ln3, ln100, ln100000, tLe, fLe, tLt, fLt, tEq, fEq, zLe_t, zLe_f, zLt_t, zLt_f, zEq_t, zEq_f, nzLe_t, nzLe_f, znLe_t, znLe_f, nzLt_t, nzLt_f, znLt_t, znLt_f, nzEq_t, nzEq_f, znEq_t, znEq_f, t1, a1, b1, c1, d1, e1, Option.map_some]
    · unfold oM_feed mX12_feed
      simp (disch := omega) only [↓reduceIte, Option.bind_some, Option.some.injEq, Prod.mk.injEq, and_self, and_true, true_and, eq_self, reduceCtorEq, not_false_eq_true, not_true_eq_false, or_true, true_or, or_false, false_or, bft, nAdd, nMul, nSub, nDiv, nRem, nAm1, nIx, nIn, bI_z, bI_o, ite_b1, ite_b0, zI_add, zI_sub, li0, li1, li2, li3, li4, li5, li6, li7, li8, li9, li10, li11, li12, li13, li14, li15, li16, li17, li18, li19, li20, li21, li22, li23, li24, li25, li26, li27, li28, li29, li30, li31, li32, li33, li34, li35, li36, li37, li40, li42, li43, li45, li47, li48, li57, li59, li60, li61, li62, li64, li80, li91, li93, li97, li99, li100, li122, li182, li199, li255, li300, li380, li400, li999, li1000, li3640, li4100, li65536, li99999, ln1, ln2, ln3, ln100, ln100000, tLe, fLe, tLt, fLt, tEq, fEq, zLe_t, zLe_f, zLt_t, zLt_f, zEq_t, zEq_f, nzLe_t, nzLe_f, znLe_t, znLe_f, nzLt_t, nzLt_f, znLt_t, znLt_f, nzEq_t, nzEq_f, znEq_t, znEq_f, g1, p1, q1, r1, s1, u1, Option.map_some]
      rw [u2, e2]
    · have i5 : ∀ i, i ≠ 27 → H5 123 i = J5 123 i := fun i hi => by rw [u5 i hi, s5 i hi, r5 i hi, q5 i hi, p5 i hi]
      refine Inv_tape (I1 := J5) G F ok C R f4 (by rw [e5, d5, c5, b5, a5]) e2 e3 (fun b h1 h2 => by rw [u4 b h1 h2, s4 b h1 h2, r4 b h1 h2, q4 b h1 h2, p4 b h1 h2]) ⟨i5 51 (by decide), i5 31 (by decide), i5 36 (by decide)⟩ u2 u3 (by simp [bys_len]; omega) (fun x hx => ?_)
      simp only [List.mem_append] at hx
      rcases hx with ((((hx | hx) | hx) | hx) | hx) | hx
      · exact ok.2.2.2.2 x hx
      · exact bys_rng _ x hx
      · exact bys_rng _ x hx
      · exact bys_rng _ x hx
      · exact bys_rng _ x hx
      · exact bys_rng _ x hx
  · refine ⟨-1, (n, K, P, I, L), (n, K, P, I, L), ?_, G, ?_, Inv_q hI (fun _ _ => rfl)⟩
    · unfold oX_feed mX11_feed
      simp (disch := omega) only [↓reduceIte, Option.bind_some, Option.some.injEq, Prod.mk.injEq, and_self, and_true, true_and, eq_self, reduceCtorEq, not_false_eq_true, not_true_eq_false, or_true, true_or, or_false, false_or, bft, nAdd, nMul, nSub, nDiv, nRem, nAm1, nIx, nIn, bI_z, bI_o, ite_b1, ite_b0, zI_add, zI_sub, li0, li1, li2, li3, li4, li5, li6, li7, li8, li9, li10, li11, li12, li13, li14, li15, li16, li17, li18, li19, li20, li21, li22, li23, li24, li25, li26, li27, li28, li29, li30, li31, li32, li33, li34, li35, li36, li37, li40, li42, li43, li45, li47, li48, li57, li59, li60, li61, li62, li64, li80, li91, li93, li97, li99, li100, li122, li182, li199, li255, li300, li380, li400, li999, li1000, li3640, li4100, li65536, li99999, ln1, ln2, ln3, ln100, ln100000, tLe, fLe, tLt, fLt, tEq, fEq, zLe_t, zLe_f, zLt_t, zLt_f, zEq_t, zEq_f, nzLe_t, nzLe_f, znLe_t, znLe_f, nzLt_t, nzLt_f, znLt_t, znLt_f, nzEq_t, nzEq_f, znEq_t, znEq_f, t1, Option.map_some]
    · unfold oM_feed mX12_feed
      simp (disch := omega) only [↓reduceIte, Option.bind_some, Option.some.injEq, Prod.mk.injEq, and_self, and_true, true_and, eq_self, reduceCtorEq, not_false_eq_true, not_true_eq_false, or_true, true_or, or_false, false_or, bft, nAdd, nMul, nSub, nDiv, nRem, nAm1, nIx, nIn, bI_z, bI_o, ite_b1, ite_b0, zI_add, zI_sub, li0, li1, li2, li3, li4, li5, li6, li7, li8, li9, li10, li11, li12, li13, li14, li15, li16, li17, li18, li19, li20, li21, li22, li23, li24, li25, li26, li27, li28, li29, li30, li31, li32, li33, li34, li35, li36, li37, li40, li42, li43, li45, li47, li48, li57, li59, li60, li61, li62, li64, li80, li91, li93, li97, li99, li100, li122, li182, li199, li255, li300, li380, li400, li999, li1000, li3640, li4100, li65536, li99999, ln1, ln2, ln3, ln100, ln100000, tLe, fLe, tLt, fLt, tEq, fEq, zLe_t, zLe_f, zLt_t, zLt_f, zEq_t, zEq_f, nzLe_t, nzLe_f, znLe_t, znLe_f, nzLt_t, nzLt_f, znLt_t, znLt_f, nzEq_t, nzEq_f, znEq_t, znEq_f, v1, Option.map_some]

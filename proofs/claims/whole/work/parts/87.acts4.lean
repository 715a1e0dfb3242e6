/-! undo, hour. -/
theorem ruleOf_ok {n : Nat} {K : Nat → Nat × Nat} {P : Nat → Nat → Nat} {I : Nat → Nat → Int32} {rs : List ruT} {f : Int} (hlen : rs.length ≤ 6) (hok : ∀ ru ∈ rs, okRu ru) (h5 : I 1 5 = nI rs.length) (hr : ∀ r ru, rs[r]? = some ru → cR K I (P 11 r) ru ∧ apt n P (P 11 r) 3) (hf1 : -1 ≤ f) (hf2 : f < rs.length) : ∃ rp, mX11_ruleOf P I (zI f) = some rp ∧ cRo K I rp (ruF rs f) := by
  unfold mX11_ruleOf ruF
  by_cases h : f < 0
  · refine ⟨0, ?_, ?_⟩
    · simp (disch := omega) only [↓reduceIte, Option.bind_some, Option.some.injEq, Prod.mk.injEq, and_self, and_true, true_and, eq_self, reduceCtorEq, not_false_eq_true, not_true_eq_false, or_true, true_or, or_false, false_or, bft, nAdd, nMul, nSub, nDiv, nRem, nAm1, nIx, nIn, bI_z, bI_o, ite_b1, ite_b0, zI_add, zI_sub, li0, li1, li2, li3, li4, li5, li6, li7, li8, li9, li10, li11, li12, li13, li14, li15, li16, li17, li18, li19, li20, li21, li22, li23, li24, li25, li26, li27, li28, li29, li30, li31, li32, li33, li34, li35, li36, li37, li40, li42, li43, li45, li47, li48, li57, li59, li60, li61, li62, li64, li80, li91, li93, li97, li99, li100, li122, li182, li199, li255, li300, li380, li400, li999, li1000, li3640, li4100, li65536, li99999, ln1, ln2, ln3, ln100, ln100000, tLe, fLe, tLt, fLt, tEq, fEq, zLe_t, zLe_f, zLt_t, zLt_f, zEq_t, zEq_f, nzLe_t, nzLe_f, znLe_t, znLe_f, nzLt_t, nzLt_f, znLt_t, znLt_f, nzEq_t, nzEq_f, znEq_t, znEq_f]
    · rw [if_pos h]; rfl
  · obtain ⟨m, rfl⟩ : ∃ m : Nat, f = m := ⟨f.toNat, by omega⟩
    have hm : m < rs.length := by omega
    have e : rs[m]? = some rs[m] := List.getElem?_eq_getElem hm
    refine ⟨P 11 m, ?_, ?_⟩
    · rw [zI_nat]
      simp (disch := omega) only [↓reduceIte, Option.bind_some, Option.some.injEq, Prod.mk.injEq, and_self, and_true, true_and, eq_self, reduceCtorEq, not_false_eq_true, not_true_eq_false, or_true, true_or, or_false, false_or, bft, nAdd, nMul, nSub, nDiv, nRem, nAm1, nIx, nIn, bI_z, bI_o, ite_b1, ite_b0, zI_add, zI_sub, li0, li1, li2, li3, li4, li5, li6, li7, li8, li9, li10, li11, li12, li13, li14, li15, li16, li17, li18, li19, li20, li21, li22, li23, li24, li25, li26, li27, li28, li29, li30, li31, li32, li33, li34, li35, li36, li37, li40, li42, li43, li45, li47, li48, li57, li59, li60, li61, li62, li64, li80, li91, li93, li97, li99, li100, li122, li182, li199, li255, li300, li380, li400, li999, li1000, li3640, li4100, li65536, li99999, ln1, ln2, ln3, ln100, ln100000, tLe, fLe, tLt, fLt, tEq, fEq, zLe_t, zLe_f, zLt_t, zLt_f, zEq_t, zEq_f, nzLe_t, nzLe_f, znLe_t, znLe_f, nzLt_t, nzLt_f, znLt_t, znLt_f, nzEq_t, nzEq_f, znEq_t, znEq_f, h5]
    · rw [if_neg h, Int.toNat_natCast, e]
      exact ⟨(hr m _ e).2.1, hok _ (List.getElem_mem hm), (hr m _ e).1⟩
theorem rRo_of {I : Nat → Nat → Int32} {rs : List ruT} {f : Int} (hlen : rs.length ≤ 6) (hok : ∀ ru ∈ rs, okRu ru) (h12 : I 124 12 = zI f) (hr : ∀ r ru, rs[r]? = some ru → rR I r ru) (hf1 : -1 ≤ f) (hf2 : f < rs.length) : rRo I (ruF rs f) := by
  unfold ruF
  by_cases h : f < 0
  · rw [if_pos h]
    have : f = -1 := by omega
    subst this
    exact h12
  · obtain ⟨m, rfl⟩ : ∃ m : Nat, f = m := ⟨f.toNat, by omega⟩
    have hm : m < rs.length := by omega
    have e : rs[m]? = some rs[m] := List.getElem?_eq_getElem hm
    rw [if_neg h, Int.toNat_natCast, e]
    exact ⟨m, by omega, by rw [h12, zI_nat], hr m _ e, hok _ (List.getElem_mem hm)⟩
theorem payF_g {S : sT} {own : Nat → Int} : ∀ (n t : Nat) (p g h : Nat → Nat), (payF S own n t p g).1 = (payF S own n t p h).1
  | 0, _, _, _, _ => rfl
  | n + 1, t, p, g, h => by
    rw [payF, payF]
    split
    · exact payF_g n (t + 1) p g h
    · exact payF_g n (t + 1) _ _ _
theorem endsA_g (S : sT) (A : aT) (g h : Nat → Nat) : (endsA S A g).1 = (endsA S A h).1 := by
  unfold endsA
  split
  · show ((dryA S A).1, _, _) = ((dryA S A).1, _, _)
    rw [payF_g _ _ _ g h]
  · rfl
theorem passA_g (S : sT) (ru : Option ruT) (A : aT) (g h : Nat → Nat) : (passA S ru A g).1.1 = (passA S ru A h).1.1 := by
  cases ru with
  | none => exact endsA_g _ _ _ _
  | some r => exact endsA_g _ _ _ _
theorem passA_n (S : sT) (ru : Option ruT) (A : aT) (g h : Nat → Nat) : (passA S ru A g).2 = (passA S ru A h).2 := by
  cases ru with
  | none => rfl
  | some r => rfl
theorem q_hour {k : Nat} (hk : k < 512) : st_hour (Inv k) (Inv (k + 1)) := by
  intro h hI
  obtain ⟨n, K, P, I, L⟩ := h
  obtain ⟨⟨G, F⟩, Z, ok, C, R⟩ := id hI
  change RI I Z at R
  have O := okZ_S ok
  have o1 := O.1
  have hA := okZ_A ok
  have hh := okZ_h ok
  have cs := CI_S C
  have ca := CI_A C
  have rs := RI_S R
  have ra := RI_A R
  generalize hS : wS (zW Z) = S at O o1 hA cs ca rs ra
  generalize hAA : wA (zW Z) = A at hA hh ca ra
  have es := rIsStreet_ok rs O
  by_cases hd : 0 < sDry S
  · rw [decide_eq_true hd] at es
    obtain ⟨P1, I1, L1, k1, k2, k3, k4, k5⟩ := keep_ok (okZ_S ok) (CI_p C) C.2.1 ok.1.2.2.2.1.1 C.1.1
    have G1 := gw_X10_keep G k1
    have cs1 : cS I1 (P1 12 0) S := by rw [← hS]; exact k2.1.1
    have ca1 : cA I1 L1 24 S A := by rw [← hS, ← hAA]; exact k2.2.1
    have pl1 : P1 12 0 = 13 ∨ 171 < P1 12 0 := by rw [k4 12 (by decide)]; exact CI_p C
    have hf := ok.1.2.2.2.2.2.2
    have c9 : I1 12 9 = zI (wF (zW Z)) := k2.2.2.2.2.2
    obtain ⟨rp, r1, r2⟩ := ruleOf_ok (n := n) (K := K) (P := P1) (I := I1) (rs := zR Z) (f := wF (zW Z)) ok.2.2.1.1 ok.2.2.1.2 ((congrFun (k5 1 (by omega)).1 5).trans C.2.2.2.1.1) (fun r ru hr => by
      have e := C.2.2.2.1.2 r ru hr
      have ea : 171 < P 11 r := e.2.1
      rw [k4 11 (by decide)]
      exact ⟨cR_congr (fun b h1 h2 => (k5 b (by have h1' : P 11 r ≤ b := h1; omega)).1) e.1, apt_congrP (k4 91 (by decide)) e.2⟩) hf.1 hf.2
    obtain ⟨g, hg⟩ := gotR_ex 101 I1
    obtain ⟨J, M, p1, p2, p3, p4, p5⟩ := pass_ok (a := 24) O hA (by omega) pl1 (Or.inl rfl) cs1 ca1 r2 hg
    have hJ : ∀ b, 122 < b → J b = I b := fun b h => by rw [p4 b (by omega) (by omega) (by omega), (k5 b (by omega)).1]
    have R0 : RI J Z := RI_cls ok (fun b q1 q2 => hJ b (by omega)) R
    obtain ⟨H, u1, u2, u3⟩ := keepsAct_ok ok.1 R0.1
    have rs1 : rSn H S := by rw [← hS]; exact u2.1
    have ra1 : rAn H S A := by rw [← hS, ← hAA]; exact u2.2.1
    have ro1 : rRo H (ruF (zR Z) (wF (zW Z))) := rRo_of ok.2.2.1.1 ok.2.2.1.2 u2.2.2.2.2.2.2 (fun r ru hr => rR_congr (fun b h1 h2 => funext (fun i => u3 b i (by omega) (Or.inl (by omega)))) (R0.2.2.1.2 r ru hr)) hf.1 hf.2
    obtain ⟨g2, hg2⟩ := gotR_ex 161 H
    obtain ⟨H1, M2, H2, v1, v2, v3, v4, v5, v6⟩ := rPass_ok (L := M) O hA (by omega) rs1 ra1 ro1 hg2
    have es3 := rIsStreet_ok (I := J) (S := S) (by rw [← hS]; exact R0.1.1) O
    rw [decide_eq_true hd] at es3
    have h9 : J 124 9 = nI A.2.2.1 := by have := R0.1.2.1.2.1; rw [hAA] at this; exact this
    obtain ⟨q1, q2, q3⟩ := okA_pass O (ruF (zR Z) (wF (zW Z))) hA (by omega) g
    have eg : (passA S (ruF (zR Z) (wF (zW Z))) A g).1.1 = (passA S (ruF (zR Z) (wF (zW Z))) A g2).1.1 := passA_g _ _ _ _ _
    have eg2 : (passA S (ruF (zR Z) (wF (zW Z))) A g).2 = (passA S (ruF (zR Z) (wF (zW Z))) A g2).2 := passA_n _ _ _ _ _
    rw [← eg] at v3
    rw [← eg2] at v1
    refine ⟨nI (passA S (ruF (zR Z) (wF (zW Z))) A g).2, (n, K, P1, J, M), (n, K, P1, H2, M2), ?_, G1, ?_, ?_⟩
    · unfold oX_hour mX11_hour
      simp (disch := omega) only [↓reduceIte, Option.bind_some, Option.some.injEq, Prod.mk.injEq, and_self, and_true, true_and, eq_self, reduceCtorEq, not_false_eq_true, not_true_eq_false, or_true, true_or, or_false, false_or, bft, nAdd, nMul, nSub, nDiv, nRem, nAm1, nIx, nIn, bI_z, bI_o, ite_b1, ite_b0, zI_add, zI_sub, li0, li1, li2, li3, li4, li5, li6, li7, li8, li9, li10, li11, li12, li13, li14, li15, li16, li17, li18, li19, li20, li21, li22, li23, li24, li25, li26, li27, li28, li29, li30, li31, li32, li33, li34, li35, li36, li37, li40, li42, li43, li45, li47, li48, li57, li59, li60, li61, li62, li64, li80, li91, li93, li97, li99, li100, li122, li182, li199, li255, li300, li380, li400, li999, li1000, li3640, li4100, li65536, li99999, ln1, ln2, ln3, ln100, ln100000, tLe, fLe, tLt, fLt, tEq, fEq, zLe_t, zLe_f, zLt_t, zLt_f, zEq_t, zEq_f, nzLe_t, nzLe_f, znLe_t, znLe_f, nzLt_t, nzLt_f, znLt_t, znLt_f, nzEq_t, nzEq_f, znEq_t, znEq_f, cS_told cs, decide_eq_true hd, cA_h ca, k1, c9, r1, p1, Option.map_some]
    · unfold oM_hour mX12_hour
      simp (disch := omega) only [↓reduceIte, Option.bind_some, Option.some.injEq, Prod.mk.injEq, and_self, and_true, true_and, eq_self, reduceCtorEq, not_false_eq_true, not_true_eq_false, or_true, true_or, or_false, false_or, bft, nAdd, nMul, nSub, nDiv, nRem, nAm1, nIx, nIn, bI_z, bI_o, ite_b1, ite_b0, zI_add, zI_sub, li0, li1, li2, li3, li4, li5, li6, li7, li8, li9, li10, li11, li12, li13, li14, li15, li16, li17, li18, li19, li20, li21, li22, li23, li24, li25, li26, li27, li28, li29, li30, li31, li32, li33, li34, li35, li36, li37, li40, li42, li43, li45, li47, li48, li57, li59, li60, li61, li62, li64, li80, li91, li93, li97, li99, li100, li122, li182, li199, li255, li300, li380, li400, li999, li1000, li3640, li4100, li65536, li99999, ln1, ln2, ln3, ln100, ln100000, tLe, fLe, tLt, fLt, tEq, fEq, zLe_t, zLe_f, zLt_t, zLt_f, zEq_t, zEq_f, nzLe_t, nzLe_f, znLe_t, znLe_f, nzLt_t, nzLt_f, znLt_t, znLt_f, nzEq_t, nzEq_f, znEq_t, znEq_f, es3, h9, u1, v1, v2, Option.map_some]
    · exact act_mk (A := (passA S (ruF (zR Z) (wF (zW Z))) A g).1.1) (J := J) (M := M) G1 F ok C R k2 k3 k4 k5 (fun b h => ⟨p4 b (by omega) (by omega) (by omega), p5 b (by omega) (by omega) (by omega)⟩) (by rw [hS]; exact p2) u3 u2 (fun i h1 h2 => v5.1 i h2) (fun b h1 h2 h3 h4 h5 h6 h7 => v5.2 b h1 h2 h3 h4 h5 h6 h7) (by rw [hS]; exact v3) v6 (by rw [hS]; exact q1) (by rw [q2]; omega)
  · rw [decide_eq_false hd] at es
    refine ⟨-1, (n, K, P, I, L), (n, K, P, I, L), ?_, G, ?_, Inv_q hI (fun _ _ => rfl)⟩
    · unfold oX_hour mX11_hour
      simp (disch := omega) only [↓reduceIte, Option.bind_some, Option.some.injEq, Prod.mk.injEq, and_self, and_true, true_and, eq_self, reduceCtorEq, not_false_eq_true, not_true_eq_false, or_true, true_or, or_false, false_or, bft, nAdd, nMul, nSub, nDiv, nRem, nAm1, nIx, nIn, bI_z, bI_o, ite_b1, ite_b0, zI_add, zI_sub, li0, li1, li2, li3, li4, li5, li6, li7, li8, li9, li10, li11, li12, li13, li14, li15, li16, li17, li18, li19, li20, li21, li22, li23, li24, li25, li26, li27, li28, li29, li30, li31, li32, li33, li34, li35, li36, li37, li40, li42, li43, li45, li47, li48, li57, li59, li60, li61, li62, li64, li80, li91, li93, li97, li99, li100, li122, li182, li199, li255, li300, li380, li400, li999, li1000, li3640, li4100, li65536, li99999, ln1, ln2, ln3, ln100, ln100000, tLe, fLe, tLt, fLt, tEq, fEq, zLe_t, zLe_f, zLt_t, zLt_f, zEq_t, zEq_f, nzLe_t, nzLe_f, znLe_t, znLe_f, nzLt_t, nzLt_f, znLt_t, znLt_f, nzEq_t, nzEq_f, znEq_t, znEq_f, cS_told cs, decide_eq_false hd, Option.map_some]
    · unfold oM_hour mX12_hour
      simp (disch := omega) only [↓reduceIte, Option.bind_some, Option.some.injEq, Prod.mk.injEq, and_self, and_true, true_and, eq_self, reduceCtorEq, not_false_eq_true, not_true_eq_false, or_true, true_or, or_false, false_or, bft, nAdd, nMul, nSub, nDiv, nRem, nAm1, nIx, nIn, bI_z, bI_o, ite_b1, ite_b0, zI_add, zI_sub, li0, li1, li2, li3, li4, li5, li6, li7, li8, li9, li10, li11, li12, li13, li14, li15, li16, li17, li18, li19, li20, li21, li22, li23, li24, li25, li26, li27, li28, li29, li30, li31, li32, li33, li34, li35, li36, li37, li40, li42, li43, li45, li47, li48, li57, li59, li60, li61, li62, li64, li80, li91, li93, li97, li99, li100, li122, li182, li199, li255, li300, li380, li400, li999, li1000, li3640, li4100, li65536, li99999, ln1, ln2, ln3, ln100, ln100000, tLe, fLe, tLt, fLt, tEq, fEq, zLe_t, zLe_f, zLt_t, zLt_f, zEq_t, zEq_f, nzLe_t, nzLe_f, znLe_t, znLe_f, nzLt_t, nzLt_f, znLt_t, znLt_f, nzEq_t, nzEq_f, znEq_t, znEq_f, es, Option.map_some]

/-! force, seed, log. -/
theorem zC (x : Int32) : ∃ f : Int, -2147483648 ≤ f ∧ f < 2147483648 ∧ x = zI f := ⟨x.toInt, by have := Int32.le_toInt x; simpa using this, by have := Int32.toInt_lt x; simpa using this, (zI_self x).symm⟩
section
variable {n : Nat} {K : Nat → Nat × Nat} {P : Nat → Nat → Nat} {I J : Nat → Nat → Int32} {L : Nat → Nat → Int64} {Z : zT} {W : wT} {k : Nat}
theorem RI_cls (ok : okZ k Z) (h : ∀ b, 123 ≤ b → b ≤ 171 → J b = I b) (R : RI I Z) : RI J Z := by
  refine RI_congr ok (fun r i hi => ?_) (by rw [h 123 (by omega) (by omega)]; exact ⟨rfl, rfl, rfl, rfl⟩) (fun b h1 h2 => h b (by omega) (by omega)) (fun i _ => by rw [h 170 (by omega) (by omega)]) (fun i _ => by rw [h 171 (by omega) (by omega)]) R
  have : 123 ≤ r ∧ r ≤ 171 := by
    rcases Nat.lt_or_ge r 123 with q | q
    · exfalso
      have : lenR r = 0 := by
        unfold lenR
        split <;> first | omega | rfl
      omega
    · rcases Nat.lt_or_ge 171 r with q2 | q2
      · exfalso
        have : lenR r = 0 := by
          unfold lenR
          split <;> first | omega | rfl
        omega
      · exact ⟨q, q2⟩
  rw [h r this.1 this.2]
theorem cW_12 {lg : lgT} {x : Nat} {f : Int} (pl : P 12 0 = 13 ∨ 171 < P 12 0) (hk : ∀ j, j < 20 → ∃ i, i < 20 ∧ P 27 j = 31 + 3 * i) (hl : (wK W).length ≤ 20) (hb : ∀ b, b ≠ 12 → b ≠ 28 → b ≠ 29 → b ≠ 30 → J b = I b) (h3 : J 12 3 = I 12 3) (C : cW P I L 12 W) (h7 : J 12 7 = nI lg.length) (hlg : ∀ j n t o, lg[j]? = some (n, t, o) → J 28 j = nI n ∧ J 29 j = nI t ∧ J 30 j = zI o) (hx : J 12 8 = nI x) (hf : J 12 9 = zI f) : cW P J L 12 (wS W, wT0 W, wA W, wK W, lg, x, f) := by
  obtain ⟨⟨c1, c2⟩, c3, ⟨c4, c5⟩, -⟩ := C
  have h24 : J 24 = I 24 := hb 24 (by decide) (by decide) (by decide) (by decide)
  have h26 : J 26 = I 26 := hb 26 (by decide) (by decide) (by decide) (by decide)
  refine ⟨⟨cS_congr (fun b h1 h2 => hb b (by omega) (by omega) (by omega) (by omega)) c1, cA_congr (hb _ (by omega) (by omega) (by omega) (by omega)) (hb _ (by omega) (by omega) (by omega) (by omega)) rfl c2⟩, cA_congr h24 h26 rfl c3, ⟨h3.trans c4, fun j B hB => ?_⟩, ⟨h7, hlg⟩, hx, hf⟩
  have hj := (List.getElem?_eq_some_iff.mp hB).1
  change j < (wK W).length at hj
  obtain ⟨i, hi, e⟩ := hk j (by omega)
  have c6 := c5 j B hB
  change cA I L (P 27 j) (wS W) B at c6
  show cA J L (P 27 j) (wS W) B
  rw [e] at c6 ⊢
  exact cA_congr (hb _ (by omega) (by omega) (by omega) (by omega)) (hb _ (by omega) (by omega) (by omega) (by omega)) rfl c6
theorem rW_12 {lg : lgT} {x : Nat} {f : Int} {pm : Int32} (hb : ∀ b, b ≠ 124 → b ≠ 134 → b ≠ 135 → b ≠ 136 → J b = I b) (h4 : ∀ i, i < 10 → J 124 i = I 124 i) (C : rW I pm W) (h7 : J 124 10 = nI lg.length) (hlg : ∀ j n t o, lg[j]? = some (n, t, o) → J 134 j = nI n ∧ J 135 j = nI t ∧ J 136 j = zI o) (hx : J 124 11 = nI x) (hf : J 124 12 = zI f) : rW J pm (wS W, wT0 W, wA W, wK W, lg, x, f) := by
  obtain ⟨r1, r2, r3, r4, -⟩ := C
  have e : ∀ b, b = 125 ∨ b = 126 ∨ b = 127 ∨ b = 128 ∨ b = 129 ∨ b = 130 ∨ b = 131 ∨ b = 132 ∨ b = 133 ∨ b = 137 ∨ b = 138 ∨ b = 139 ∨ b = 140 ∨ b = 162 → J b = I b := fun b h => hb b (by omega) (by omega) (by omega) (by omega)
  refine ⟨?_, ?_, ?_, ?_, ⟨h7, hlg⟩, hx, hf⟩
  · rw [e 125 (by omega), e 126 (by omega), e 127 (by omega), e 129 (by omega), e 130 (by omega)]
    exact ⟨fun i hi => (h4 i (by omega)).trans (r1.1 i hi), r1.2⟩
  · rw [e 128 (by omega), e 131 (by omega), e 132 (by omega), e 133 (by omega)]
    exact ⟨(h4 8 (by omega)).trans r2.1, (h4 9 (by omega)).trans r2.2.1, r2.2.2⟩
  · unfold rT0
    rw [e 137 (by omega), e 138 (by omega), e 139 (by omega), e 140 (by omega)]
    exact r3
  · rw [e 162 (by omega)]
    exact r4
/-- logs, x and the rule in force change alone -/
theorem Inv_lxf {I1 J : Nat → Nat → Int32} {lg : lgT} {x : Nat} {f : Int} (hG : GW K P) (hF : Fr (n, K, P, I, L)) (ok : okZ k Z) (C : CI (n, K, P, I, L) Z) (R : RI I Z)
    (hb : ∀ b, b ≠ 12 → b ≠ 28 → b ≠ 29 → b ≠ 30 → I1 b = I b) (h3 : I1 12 3 = I 12 3) (h7 : I1 12 7 = nI lg.length) (hlg : ∀ j n t o, lg[j]? = some (n, t, o) → I1 28 j = nI n ∧ I1 29 j = nI t ∧ I1 30 j = zI o) (hx : I1 12 8 = nI x) (hf : I1 12 9 = zI f)
    (gb : ∀ b, b ≠ 124 → b ≠ 134 → b ≠ 135 → b ≠ 136 → J b = I1 b) (g4 : ∀ i, i < 10 → J 124 i = I1 124 i) (g7 : J 124 10 = nI lg.length) (glg : ∀ j n t o, lg[j]? = some (n, t, o) → J 134 j = nI n ∧ J 135 j = nI t ∧ J 136 j = zI o) (gx : J 124 11 = nI x) (gf : J 124 12 = zI f)
    (ol : lg.length ≤ 10 ∧ ∀ e ∈ lg, e.1 ≤ 99 ∧ e.2.1 < sTh (wS (zW Z)) ∧ -1 ≤ e.2.2 ∧ e.2.2 < sPa (wS (zW Z))) (ox : x < 2147483648) (of1 : -1 ≤ f) (of2 : f < (zR Z).length) : Inv (k + 1) (n, K, P, J, L) := by
  have okW' : okW (k + 1) (zR Z).length (wS (zW Z), wT0 (zW Z), wA (zW Z), wK (zW Z), lg, x, f) := by
    obtain ⟨o1, o2, o3, o4, o5, o6, o7, o8⟩ := okW_mono (Nat.le_succ k) (Nat.le_refl _) ok.1
    exact ⟨o1, o2, o3, o4, ol, ox, of1, of2⟩
  have C1 : CI (n, K, P, I1, L) ((wS (zW Z), wT0 (zW Z), wA (zW Z), wK (zW Z), lg, x, f), Z.2) :=
    CI_now ok C (cW_12 (CI_p C) C.2.1.1 ok.1.2.2.2.1.1 hb h3 C.1.1 h7 hlg hx hf) C.1.2 C.2.1 (fun b h => ⟨hb b (by omega) (by omega) (by omega) (by omega), rfl⟩) (fun _ _ => rfl)
  have R0 : RI I1 Z := RI_cls ok (fun b h1 h2 => hb b (by omega) (by omega) (by omega) (by omega)) R
  have e23 : J 123 = I1 123 := gb 123 (by decide) (by decide) (by decide) (by decide)
  have R1 : RI J ((wS (zW Z), wT0 (zW Z), wA (zW Z), wK (zW Z), lg, x, f), Z.2) :=
    RI_now ok R0 (by rw [e23]; exact rW_12 gb g4 R0.1 g7 glg gx gf) (by rw [e23]; exact ⟨rfl, rfl, rfl⟩) (fun b h1 h2 => gb b (by omega) (by omega) (by omega) (by omega)) (fun i _ => by rw [gb 170 (by decide) (by decide) (by decide) (by decide)]) (fun i _ => by rw [gb 171 (by decide) (by decide) (by decide) (by decide)])
  exact Inv_ref (I := I1) hG hF (okZ_now ok (Nat.le_succ k) okW') C1 R1 (fun b h => gb b (by omega) (by omega) (by omega) (by omega)) (fun _ _ => rfl)
end
theorem q_force {k : Nat} (hk : k < 512) : st_force (Inv k) (Inv (k + 1)) := by
  intro h x hI
  obtain ⟨n, K, P, I, L⟩ := h
  obtain ⟨⟨G, F⟩, Z, ok, C, R⟩ := id hI
  change RI I Z at R
  have O := okZ_S ok
  have o1 := O.1
  have hA := okZ_A ok
  have hh := okZ_h ok
  have cs := CI_S C
  have ca := CI_A C
  have rs := RI_S R
  have ra := RI_A R
  generalize hS : wS (zW Z) = S at O o1 hA cs ca rs ra
  generalize hAA : wA (zW Z) = A at hA hh ca ra
  obtain ⟨f, hf1, hf2, rfl⟩ := zC x
  have c9 : I 12 9 = zI (wF (zW Z)) := C.1.1.2.2.2.2.2
  have s9 : I 124 12 = zI (wF (zW Z)) := R.1.2.2.2.2.2.2
  have t2 : I 1 5 = nI (zR Z).length := C.2.2.2.1.1
  have v2 : I 123 31 = nI (zR Z).length := R.2.2.1.1
  have hn := ok.2.2.1.1
  have ein : mX12_in (zI f).toInt64 (-1 : Int64) ((nI (zR Z).length - (1 : Int32)).toInt64) = some (bI (decide (zI (-1) ≤ zI f) && decide (zI f ≤ zI ((zR Z).length - 1)))) := by
    rw [show (-1 : Int64) = (zI (-1)).toInt64 by decide +kernel, li1, nSubZ]
    exact rIn32 _ _ _
  by_cases hb : -1 ≤ f ∧ f < (zR Z).length
  · refine ⟨zI (wF (zW Z)), (n, K, P, xu I 12 9 (zI f), L), (n, K, P, xu (xu I 12 9 (zI f)) 124 12 (zI f), L), ?_, G, ?_, ?_⟩
    · unfold oX_force mX11_force
      simp (disch := omega) only [↓reduceIte, Option.bind_some, Option.some.injEq, Prod.mk.injEq, and_self, and_true, true_and, eq_self, reduceCtorEq, not_false_eq_true, not_true_eq_false, or_true, true_or, or_false, false_or, bft, nAdd, nMul, nSub, nDiv, nRem, nAm1, nIx, nIn, bI_z, bI_o, ite_b1, ite_b0, zI_add, zI_sub, li0, li1, li2, li3, li4, li5, li6, li7, li8, li9, li10, li11, li12, li13, li14, li15, li16, li17, li18, li19, li20, li21, li22, li23, li24, li25, li26, li27, li28, li29, li30, li31, li32, li33, li34, li35, li36, li37, li40, li42, li43, li45, li47, li48, li57, li59, li60, li61, li62, li64, li80, li91, li93, li97, li99, li100, li122, li182, li199, li255, li300, li380, li400, li999, li1000, li3640, li4100, li65536, li99999, ln1, ln2, ln3, ln100, ln100000, tLe, fLe, tLt, fLt, tEq, fEq, zLe_t, zLe_f, zLt_t, zLt_f, zEq_t, zEq_f, nzLe_t, nzLe_f, znLe_t, znLe_f, nzLt_t, nzLt_f, znLt_t, znLt_f, nzEq_t, nzEq_f, znEq_t, znEq_f, c9, t2, Option.map_some]
    · unfold oM_force mX12_force
      have q1 : zI (-1) ≤ zI f := by rw [zI_le (by omega) (by omega) (by omega) (by omega)]; omega
      have q2 : zI f ≤ zI (((zR Z).length : Int) - 1) := by rw [zI_le (by omega) (by omega) (by omega) (by omega)]; omega
      rw [decide_eq_true q1, decide_eq_true q2] at ein
      simp only [xu_r (show 123 ≠ 12 by decide), xu_r (show 124 ≠ 12 by decide), v2, ein, s9]
      rfl
    · refine Inv_lxf (lg := wL (zW Z)) (x := wX (zW Z)) (f := f) G F ok C R (fun b h1 _ _ _ => xu_r h1) (xu_c (by decide)) ((xu_c (by decide)).trans C.1.1.2.2.2.1.1) (fun j a t o hj => ?_) ((xu_c (by decide)).trans C.1.1.2.2.2.2.1) xu_s (fun b h1 _ _ _ => xu_r h1) (fun i hi => xu_c (by omega)) ?_ (fun j a t o hj => ?_) ?_ xu_s ok.1.2.2.2.2.1 ok.1.2.2.2.2.2.1 hb.1 hb.2
      · rw [xu_r (by decide), xu_r (by decide), xu_r (by decide)]
        exact C.1.1.2.2.2.1.2 j a t o hj
      · rw [xu_c (by decide), xu_r (by decide)]; exact R.1.2.2.2.2.1.1
      · rw [xu_r (b := 134) (by decide), xu_r (b := 135) (by decide), xu_r (b := 136) (by decide), xu_r (b := 134) (by decide), xu_r (b := 135) (by decide), xu_r (b := 136) (by decide)]
        exact R.1.2.2.2.2.1.2 j a t o hj
      · rw [xu_c (by decide), xu_r (by decide)]; exact R.1.2.2.2.2.2.1
  · refine ⟨-2, (n, K, P, I, L), (n, K, P, I, L), ?_, G, ?_, Inv_q hI (fun _ _ => rfl)⟩
    · unfold oX_force mX11_force
      by_cases hc : f < -1
      · simp (disch := omega) only [↓reduceIte, Option.bind_some, Option.some.injEq, Prod.mk.injEq, and_self, and_true, true_and, eq_self, reduceCtorEq, not_false_eq_true, not_true_eq_false, or_true, true_or, or_false, false_or, bft, nAdd, nMul, nSub, nDiv, nRem, nAm1, nIx, nIn, bI_z, bI_o, ite_b1, ite_b0, zI_add, zI_sub, li0, li1, li2, li3, li4, li5, li6, li7, li8, li9, li10, li11, li12, li13, li14, li15, li16, li17, li18, li19, li20, li21, li22, li23, li24, li25, li26, li27, li28, li29, li30, li31, li32, li33, li34, li35, li36, li37, li40, li42, li43, li45, li47, li48, li57, li59, li60, li61, li62, li64, li80, li91, li93, li97, li99, li100, li122, li182, li199, li255, li300, li380, li400, li999, li1000, li3640, li4100, li65536, li99999, ln1, ln2, ln3, ln100, ln100000, tLe, fLe, tLt, fLt, tEq, fEq, zLe_t, zLe_f, zLt_t, zLt_f, zEq_t, zEq_f, nzLe_t, nzLe_f, znLe_t, znLe_f, nzLt_t, nzLt_f, znLt_t, znLt_f, nzEq_t, nzEq_f, znEq_t, znEq_f, Option.map_some]
      · simp (disch := omega) only [↓reduceIte, Option.bind_some, Option.some.injEq, Prod.mk.injEq, and_self, and_true, true_and, eq_self, reduceCtorEq, not_false_eq_true, not_true_eq_false, or_true, true_or, or_false, false_or, bft, nAdd, nMul, nSub, nDiv, nRem, nAm1, nIx, nIn, bI_z, bI_o, ite_b1, ite_b0, zI_add, zI_sub, li0, li1, li2, li3, li4, li5, li6, li7, li8, li9, li10, li11, li12, li13, li14, li15, li16, li17, li18, li19, li20, li21, li22, li23, li24, li25, li26, li27, li28, li29, li30, li31, li32, li33, li34, li35, li36, li37, li40, li42, li43, li45, li47, li48, li57, li59, li60, li61, li62, li64, li80, li91, li93, li97, li99, li100, li122, li182, li199, li255, li300, li380, li400, li999, li1000, li3640, li4100, li65536, li99999, ln1, ln2, ln3, ln100, ln100000, tLe, fLe, tLt, fLt, tEq, fEq, zLe_t, zLe_f, zLt_t, zLt_f, zEq_t, zEq_f, nzLe_t, nzLe_f, znLe_t, znLe_f, nzLt_t, nzLt_f, znLt_t, znLt_f, nzEq_t, nzEq_f, znEq_t, znEq_f, t2, Option.map_some]
    · unfold oM_force mX12_force
      have q : (decide (zI (-1) ≤ zI f) && decide (zI f ≤ zI (((zR Z).length : Int) - 1))) = false := by
        rw [Bool.and_eq_false_iff]
        by_cases hc : f < -1
        · left; rw [decide_eq_false]; rw [zI_le (by omega) (by omega) (by omega) (by omega)]; omega
        · right; rw [decide_eq_false]; rw [zI_le (by omega) (by omega) (by omega) (by omega)]; omega
      rw [q] at ein
      simp only [v2, ein]
      rfl
theorem q_seed {k : Nat} (hk : k < 512) : st_seed (Inv k) (Inv (k + 1)) := by
  intro h x hI
  obtain ⟨n, K, P, I, L⟩ := h
  obtain ⟨⟨G, F⟩, Z, ok, C, R⟩ := id hI
  change RI I Z at R
  have O := okZ_S ok
  have o1 := O.1
  have hA := okZ_A ok
  have hh := okZ_h ok
  have cs := CI_S C
  have ca := CI_A C
  have rs := RI_S R
  have ra := RI_A R
  generalize hS : wS (zW Z) = S at O o1 hA cs ca rs ra
  generalize hAA : wA (zW Z) = A at hA hh ca ra
  have c8 : I 12 8 = nI (wX (zW Z)) := C.1.1.2.2.2.2.1
  have s8 : I 124 11 = nI (wX (zW Z)) := R.1.2.2.2.2.2.1
  rcases x0C x with hx | ⟨m, hm, rfl⟩
  · refine ⟨-1, (n, K, P, I, L), (n, K, P, I, L), ?_, G, ?_, Inv_q hI (fun _ _ => rfl)⟩
    · unfold oX_seed mX11_seed
      simp only [if_neg (i_of0 hx)]
      rfl
    · unfold oM_seed mX12_seed
      simp only [if_neg (i_of0 hx)]
      rfl
  · refine ⟨nI (wX (zW Z)), (n, K, P, xu I 12 8 (nI m), L), (n, K, P, xu (xu I 12 8 (nI m)) 124 11 (nI m), L), ?_, G, ?_, ?_⟩
    · unfold oX_seed mX11_seed
      simp (disch := omega) only [↓reduceIte, Option.bind_some, Option.some.injEq, Prod.mk.injEq, and_self, and_true, true_and, eq_self, reduceCtorEq, not_false_eq_true, not_true_eq_false, or_true, true_or, or_false, false_or, bft, nAdd, nMul, nSub, nDiv, nRem, nAm1, nIx, nIn, bI_z, bI_o, ite_b1, ite_b0, zI_add, zI_sub, li0, li1, li2, li3, li4, li5, li6, li7, li8, li9, li10, li11, li12, li13, li14, li15, li16, li17, li18, li19, li20, li21, li22, li23, li24, li25, li26, li27, li28, li29, li30, li31, li32, li33, li34, li35, li36, li37, li40, li42, li43, li45, li47, li48, li57, li59, li60, li61, li62, li64, li80, li91, li93, li97, li99, li100, li122, li182, li199, li255, li300, li380, li400, li999, li1000, li3640, li4100, li65536, li99999, ln1, ln2, ln3, ln100, ln100000, tLe, fLe, tLt, fLt, tEq, fEq, zLe_t, zLe_f, zLt_t, zLt_f, zEq_t, zEq_f, nzLe_t, nzLe_f, znLe_t, znLe_f, nzLt_t, nzLt_f, znLt_t, znLt_f, nzEq_t, nzEq_f, znEq_t, znEq_f, c8, Option.map_some]
    · unfold oM_seed mX12_seed
      simp (disch := omega) only [↓reduceIte, Option.bind_some, Option.some.injEq, Prod.mk.injEq, and_self, and_true, true_and, eq_self, reduceCtorEq, not_false_eq_true, not_true_eq_false, or_true, true_or, or_false, false_or, bft, nAdd, nMul, nSub, nDiv, nRem, nAm1, nIx, nIn, bI_z, bI_o, ite_b1, ite_b0, zI_add, zI_sub, li0, li1, li2, li3, li4, li5, li6, li7, li8, li9, li10, li11, li12, li13, li14, li15, li16, li17, li18, li19, li20, li21, li22, li23, li24, li25, li26, li27, li28, li29, li30, li31, li32, li33, li34, li35, li36, li37, li40, li42, li43, li45, li47, li48, li57, li59, li60, li61, li62, li64, li80, li91, li93, li97, li99, li100, li122, li182, li199, li255, li300, li380, li400, li999, li1000, li3640, li4100, li65536, li99999, ln1, ln2, ln3, ln100, ln100000, tLe, fLe, tLt, fLt, tEq, fEq, zLe_t, zLe_f, zLt_t, zLt_f, zEq_t, zEq_f, nzLe_t, nzLe_f, znLe_t, znLe_f, nzLt_t, nzLt_f, znLt_t, znLt_f, nzEq_t, nzEq_f, znEq_t, znEq_f, xu_s, xu_r, xu_c, xrow_at, xrow_r, s8, Option.map_some]
    · refine Inv_lxf (lg := wL (zW Z)) (x := m) (f := wF (zW Z)) G F ok C R (fun b h1 _ _ _ => xu_r h1) (xu_c (by decide)) ((xu_c (by decide)).trans C.1.1.2.2.2.1.1) (fun j a t o hj => ?_) xu_s ((xu_c (by decide)).trans C.1.1.2.2.2.2.2) (fun b h1 _ _ _ => xu_r h1) (fun i hi => xu_c (by omega)) ?_ (fun j a t o hj => ?_) xu_s ?_ ok.1.2.2.2.2.1 hm ok.1.2.2.2.2.2.2.1 ok.1.2.2.2.2.2.2.2
      · rw [xu_r (by decide), xu_r (by decide), xu_r (by decide)]
        exact C.1.1.2.2.2.1.2 j a t o hj
      · rw [xu_c (by decide), xu_r (by decide)]; exact R.1.2.2.2.2.1.1
      · rw [xu_r (b := 134) (by decide), xu_r (b := 135) (by decide), xu_r (b := 136) (by decide), xu_r (b := 134) (by decide), xu_r (b := 135) (by decide), xu_r (b := 136) (by decide)]
        exact R.1.2.2.2.2.1.2 j a t o hj
      · rw [xu_c (by decide), xu_r (by decide)]; exact R.1.2.2.2.2.2.2

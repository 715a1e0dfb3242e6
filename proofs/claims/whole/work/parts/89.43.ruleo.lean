/-! rule: what is told is sound; the reference's answer. -/
theorem sgC_app {code x : List Nat} {s t : Nat} (h : t ≤ code.length) : sgC (code ++ x) s t = sgC code s t := by
  unfold sgC
  rw [List.take_append_of_le_length h]
theorem okCl_app {code x : List Nat} : ∀ (cl : List (Nat × Nat)) (s : Nat), okCl code cl s → okCl (code ++ x) cl s
  | [], _, _ => trivial
  | (t, e) :: r, s, h => by
    obtain ⟨⟨h1, h2, h3, h4, h5⟩, h6⟩ := h
    refine ⟨⟨h1, h2, by rw [List.length_append]; omega, by rw [sgC_app (by omega)]; exact h4, by rw [sgC_app h3]; exact h5⟩, okCl_app r e h6⟩
def lastE : List (Nat × Nat) → Nat → Nat
  | [], s => s
  | (_, e) :: r, _ => lastE r e
theorem lastE_snoc {t e : Nat} : ∀ (cl : List (Nat × Nat)) (s : Nat), lastE (cl ++ [(t, e)]) s = e
  | [], _ => rfl
  | (_, e2) :: r, _ => lastE_snoc r e2
theorem okCl_snoc {code : List Nat} {t e : Nat} : ∀ (cl : List (Nat × Nat)) (s : Nat), okCl code cl s → (lastE cl s ≤ t ∧ t ≤ e ∧ e ≤ code.length ∧ okSg false (sgC code (lastE cl s) t) ∧ (t = e ∨ okSg true (sgC code t e))) → okCl code (cl ++ [(t, e)]) s
  | [], s, _, h => ⟨h, trivial⟩
  | (t2, e2) :: r, s, h, h2 => ⟨h.1, okCl_snoc r e2 h.2 h2⟩
section
variable {T : txT}
theorem rlS_ok : ∀ (m k q c : Nat) (cd : List Nat) (cl : List (Nat × Nat)) (ru : ruT), k + m = 13 → q ≤ T.2 → T.2 ≤ 400 → c ≤ 60 → cl.length = k → 3 * cd.length ≤ 6 * c + q → nvC cd ≤ c → (∀ x ∈ cd, okI x) → okCl cd cl 0 → lastE cl 0 = cd.length → rlS T m k q c cd cl = .ok ru → okRu ru
  | 0, k, q, c, cd, cl, ru, _, _, _, _, _, _, _, _, _, _, h => by cases h
  | m + 1, k, q, c, cd, cl, ru, h1, hq, hn, hc, hk, hb, hv, hI, hO, hE, h => by
    rw [rlS] at h
    by_cases h17 : kd T q = 17
    · rw [if_pos h17] at h
      have kn := kd_nx (T := T) (q := q) (by omega)
      by_cases h12 : k = 12
      · rw [if_pos h12] at h; cases h
      · rw [if_neg h12] at h
        cases hcl : clsT T (nx T q) c with
        | error e => rw [hcl] at h; cases h
        | ok y =>
          obtain ⟨o, o2, q2, c2⟩ := y
          rw [hcl] at h
          obtain ⟨p1, p2, p3, p4, p5, p6, p7, p8⟩ := cls_pr hc kn.2.2 hcl
          have len : (cd ++ (o ++ o2)).length = cd.length + o.length + o2.length := by rw [List.length_append, List.length_append]; omega
          have nv : nvC (cd ++ (o ++ o2)) = nvC cd + (nvC o + nvC o2) := by rw [nvC_app, nvC_app]
          have I2 : ∀ x ∈ cd ++ (o ++ o2), okI x := fun x hx => (List.mem_append.mp hx).elim (hI x) (p6 x)
          have s1 : sgC (cd ++ (o ++ o2)) cd.length (cd.length + o.length) = o := by
            unfold sgC
            rw [← List.append_assoc, List.take_append_of_le_length (by rw [List.length_append]; exact Nat.le_refl _), List.take_of_length_le (by rw [List.length_append]; exact Nat.le_refl _), List.drop_left]
          have s2 : sgC (cd ++ (o ++ o2)) (cd.length + o.length) (cd.length + o.length + o2.length) = o2 := by
            unfold sgC
            rw [← len, List.take_length, ← List.append_assoc, show cd.length + o.length = (cd ++ o).length from List.length_append.symm, List.drop_left]
          have O2 : okCl (cd ++ (o ++ o2)) (cl ++ [(cd.length + o.length, cd.length + o.length + o2.length)]) 0 := by
            refine okCl_snoc cl 0 (okCl_app cl 0 hO) ?_
            rw [hE, s1, s2]
            refine ⟨by omega, by omega, by omega, p7, ?_⟩
            rcases p8 with e | e
            · left; rw [e]; rfl
            · exact Or.inr e
          have L2 : (cl ++ [(cd.length + o.length, cd.length + o.length + o2.length)]).length = k + 1 := by rw [List.length_append, hk]; rfl
          dsimp only at h
          by_cases h36 : kd T q2 = 36
          · rw [if_pos h36] at h
            injection h with h
            subst h
            refine ⟨?_, ?_, ?_, I2, O2⟩
            · show (cd ++ (o ++ o2)).length < 300; omega
            · show (cl ++ [(cd.length + o.length, cd.length + o.length + o2.length)]).length ≤ 12; omega
            · show nvC (cd ++ (o ++ o2)) ≤ 60; omega
          · rw [if_neg h36] at h
            by_cases h32 : kd T q2 = 32
            · rw [if_pos h32] at h
              have kn2 := kd_nx (T := T) (q := q2) (by omega)
              exact rlS_ok m (k + 1) (nx T q2) c2 _ _ ru (by omega) kn2.2.2 hn p2 L2 (by omega) (by omega) I2 O2 (by rw [lastE_snoc, len]) h
            · rw [if_neg h32] at h; cases h
    · rw [if_neg h17] at h; cases h
theorem rlS_okR {q : Nat} {ru : ruT} (ok : okT T) (hq : q ≤ T.2) (h : rlS T 13 0 q 0 [] [] = .ok ru) : okRu ru := rlS_ok 13 0 q 0 [] [] ru (by omega) hq ok.1 (by omega) rfl (Nat.zero_le _) (Nat.zero_le _) (fun x hx => by cases hx) trivial rfl h
def frV (r : Nat) (I J : Nat → Nat → Int32) : Prop := ∀ b k, b ≠ 123 ∨ k < 27 ∨ 35 < k → (b < 151 ∨ 157 < b) ∨ (b ≤ 152 ∧ k < 300 * r) ∨ (b = 153 ∧ k < r) ∨ (154 ≤ b ∧ b ≤ 156 ∧ k < 12 * r) → J b k = I b k
variable {I : Nat → Nat → Int32} {r : Nat}
theorem rRule_ok (ok : okT T) (hx : txR I T) (hr : r < 6) (h31 : I 123 31 = nI r) (h36 : I 123 36 = nI 13) : match rlS T 13 0 (sk T 0) 0 [] [] with
    | .error e => ∃ J, mX12_rule I = some ((-2 : Int32) - nI e, J) ∧ J 123 27 = nI 0 ∧ J 123 31 = nI r ∧ frV r I J
    | .ok ru => ∃ J, mX12_rule I = some (nI r, J) ∧ J 123 27 = nI 0 ∧ J 123 31 = nI (r + 1) ∧ rR J r ru ∧ frV r I J := by
  have hn := ok.1
  have f0 : ∀ b k, b ≠ 123 ∨ (k ≠ 30 ∧ k ≠ 32 ∧ k ≠ 33 ∧ k ≠ 34) → xu (xu (xu (xu I 123 30 (nI r)) 123 32 (nI 0)) 123 33 (nI 0)) 123 34 (nI 0) b k = I b k := fun b k h => by rw [xu_off (by omega), xu_off (by omega), xu_off (by omega), xu_off (by omega)]
  have C0 : rC (xu (xu (xu (xu I 123 30 (nI r)) 123 32 (nI 0)) 123 33 (nI 0)) 123 34 (nI 0)) r 0 [] := by
    refine ⟨⟨?_, ?_⟩, ?_, xu_s, fun i x hx => by cases hx⟩
    · rw [xu_c (by decide), xu_c (by decide), xu_c (by decide), xu_s]
    · rw [f0 123 36 (by decide)]; exact h36
    · rw [xu_c (by decide), xu_c (by decide), xu_s]; rfl
  have hx0 : txR (xu (xu (xu (xu I 123 30 (nI r)) 123 32 (nI 0)) 123 33 (nI 0)) 123 34 (nI 0)) T := ⟨by rw [f0 123 27 (by decide)]; exact hx.1, fun i hi => by rw [f0 150 i (by omega)]; exact hx.2 i hi⟩
  have st : mX12_starts (xu I 123 30 (nI r)) = some (rP (xu (xu (xu (xu I 123 30 (nI r)) 123 32 (nI 0)) 123 33 (nI 0)) 123 34 (nI 0)) 0 0) := by
    unfold mX12_starts
    rw [← rP_xu (by omega), ← rP_xu (by omega), ← rP_xu (by omega)]
    rfl
  have go := rlR_go (r := r) ok hr (e47 := fun (I_9 : (Nat → Nat → Int32)) (a1_9 : Int32) => (if inb ((xu I_9 123 27 (0 : Int32)) 123 30) 6 = true then (if ((xu (xu I_9 123 27 (0 : Int32)) 153 (ix ((xu I_9 123 27 (0 : Int32)) 123 30)) a1_9) 123 29) = 0 then (mX12_rule_79 (xu (xu I_9 123 27 (0 : Int32)) 153 (ix ((xu I_9 123 27 (0 : Int32)) 123 30)) a1_9) (1 : Int32) ((xu (xu I_9 123 27 (0 : Int32)) 153 (ix ((xu I_9 123 27 (0 : Int32)) 123 30)) a1_9) 123 31)) else (mX12_rule_79 (xu (xu I_9 123 27 (0 : Int32)) 153 (ix ((xu I_9 123 27 (0 : Int32)) 123 30)) a1_9) (0 : Int32) ((xu (xu I_9 123 27 (0 : Int32)) 153 (ix ((xu I_9 123 27 (0 : Int32)) 123 30)) a1_9) 123 31))) else none)) 12 0 xf (sk T 0) 0 0 [] [] _ (by omega) (by unfold xf; omega) (Nat.zero_le _) rfl hx0 C0 (by rw [xu_c (by decide), xu_s]) (fun j t e hj => by cases hj) rfl rfl (Nat.zero_le _) (by omega)
  have er : mX12_rule I = mX12_rule_27 (fun (I_9 : (Nat → Nat → Int32)) (a1_9 : Int32) => (if inb ((xu I_9 123 27 (0 : Int32)) 123 30) 6 = true then (if ((xu (xu I_9 123 27 (0 : Int32)) 153 (ix ((xu I_9 123 27 (0 : Int32)) 123 30)) a1_9) 123 29) = 0 then (mX12_rule_79 (xu (xu I_9 123 27 (0 : Int32)) 153 (ix ((xu I_9 123 27 (0 : Int32)) 123 30)) a1_9) (1 : Int32) ((xu (xu I_9 123 27 (0 : Int32)) 153 (ix ((xu I_9 123 27 (0 : Int32)) 123 30)) a1_9) 123 31)) else (mX12_rule_79 (xu (xu I_9 123 27 (0 : Int32)) 153 (ix ((xu I_9 123 27 (0 : Int32)) 123 30)) a1_9) (0 : Int32) ((xu (xu I_9 123 27 (0 : Int32)) 153 (ix ((xu I_9 123 27 (0 : Int32)) 123 30)) a1_9) 123 31))) else none)) xf (rP (xu (xu (xu (xu I 123 30 (nI r)) 123 32 (nI 0)) 123 33 (nI 0)) 123 34 (nI 0)) 0 0) (nI 0) (nI 1) := by
    unfold mX12_rule
    rw [h31, if_neg (nNeL (x := 6) (b := 6) rfl (by omega) (by omega) (by omega)), st, Option.bind_some]
    rfl
  rw [er]
  generalize hB : xu (xu (xu (xu I 123 30 (nI r)) 123 32 (nI 0)) 123 33 (nI 0)) 123 34 (nI 0) = B at go f0 hx0 C0
  have b30 : ∀ J, frU r B J → J 123 30 = nI r := fun J h => by rw [h 123 30 (by omega) (by omega) (by omega)]; exact C0.1.1
  have b31 : ∀ J, frU r B J → J 123 31 = nI r := fun J h => by rw [h 123 31 (by omega) (by omega) (by omega), f0 123 31 (by decide)]; exact h31
  have fv2 : ∀ (J : Nat → Nat → Int32) (p e : Nat) (v w : Int32), frU r B J → frV r I (rP (xu (xu (xu J 123 27 (nI 0)) 153 r v) 123 31 w) p e) := fun J p e v w h b k z1 z2 => by
    rw [rP_o (by omega), xu_off (by omega), xu_off (by omega), xu_off (by omega), h b k (by omega) (by omega) (by omega), f0 b k (by omega)]
  cases hv : rlS T 13 0 (sk T 0) 0 [] [] with
  | error e =>
    rw [hv] at go
    obtain ⟨he, J, p, v, g1, g2⟩ := go
    have j30 := b30 J g2
    have j31 := b31 J g2
    refine ⟨rP (xu (xu (xu J 123 27 (nI 0)) 153 r v) 123 31 (nI r)) p e, ?_, by rw [rP_o (by decide), xu_c (by decide), xu_r (by decide), xu_s], by rw [rP_o (by decide), xu_s], fv2 J p e v _ g2⟩
    rw [g1]
    unfold mX12_rule_79
    simp (disch := omega) only [↓reduceIte, Option.bind_some, Option.some.injEq, Prod.mk.injEq, and_self, and_true, true_and, eq_self, reduceCtorEq, not_false_eq_true, not_true_eq_false, or_true, true_or, or_false, false_or, bft, nAdd, nMul, nSub, nDiv, nRem, nAm1, nIx, nIn, bI_z, bI_o, ite_b1, ite_b0, zI_add, zI_sub, li0, li1, li2, li3, li4, li5, li6, li7, li8, li9, li10, li11, li12, li13, li14, li15, li16, li17, li18, li19, li20, li21, li22, li23, li24, li25, li26, li27, li28, li29, li30, li31, li32, li33, li34, li35, li36, li37, li40, li42, li43, li45, li47, li48, li57, li59, li60, li61, li62, li64, li80, li91, li93, li97, li99, li100, li122, li182, li199, li255, li300, li380, li400, li999, li1000, li3640, li4100, li65536, li99999, ln1, ln2, ln3, ln100, ln100000, tLe, fLe, tLt, fLt, tEq, fEq, zLe_t, zLe_f, zLt_t, zLt_f, zEq_t, zEq_f, nzLe_t, nzLe_f, znLe_t, znLe_f, nzLt_t, nzLt_f, znLt_t, znLt_f, nzEq_t, nzEq_f, znEq_t, znEq_f, xu_s, xu_r, xu_c, xrow_at, xrow_r, rP_xu, rP_o, rP_29, j30, j31, Nat.add_zero]
    try rfl
  | ok ru =>
    rw [hv] at go
    obtain ⟨J, p, c, g1, g2, g3, g4⟩ := go
    have j30 := b30 J g4
    have j31 := b31 J g4
    refine ⟨rP (xu (xu (xu J 123 27 (nI 0)) 153 r (nI ru.2.length)) 123 31 (nI (r + 1))) p 0, ?_, by rw [rP_o (by decide), xu_c (by decide), xu_r (by decide), xu_s], by rw [rP_o (by decide), xu_s], ⟨?_, fun i x hi => ?_, fun k t e hk => ?_⟩, fv2 J p 0 _ _ g4⟩
    · rw [g1]
      unfold mX12_rule_79
      simp (disch := omega) only [↓reduceIte, Option.bind_some, Option.some.injEq, Prod.mk.injEq, and_self, and_true, true_and, eq_self, reduceCtorEq, not_false_eq_true, not_true_eq_false, or_true, true_or, or_false, false_or, bft, nAdd, nMul, nSub, nDiv, nRem, nAm1, nIx, nIn, bI_z, bI_o, ite_b1, ite_b0, zI_add, zI_sub, li0, li1, li2, li3, li4, li5, li6, li7, li8, li9, li10, li11, li12, li13, li14, li15, li16, li17, li18, li19, li20, li21, li22, li23, li24, li25, li26, li27, li28, li29, li30, li31, li32, li33, li34, li35, li36, li37, li40, li42, li43, li45, li47, li48, li57, li59, li60, li61, li62, li64, li80, li91, li93, li97, li99, li100, li122, li182, li199, li255, li300, li380, li400, li999, li1000, li3640, li4100, li65536, li99999, ln1, ln2, ln3, ln100, ln100000, tLe, fLe, tLt, fLt, tEq, fEq, zLe_t, zLe_f, zLt_t, zLt_f, zEq_t, zEq_f, nzLe_t, nzLe_f, znLe_t, znLe_f, nzLt_t, nzLt_f, znLt_t, znLt_f, nzEq_t, nzEq_f, znEq_t, znEq_f, xu_s, xu_r, xu_c, xrow_at, xrow_r, rP_xu, rP_o, rP_29, j30, j31, Nat.add_sub_cancel]
    · rw [rP_o (by omega), xu_r (by decide), xu_s]
    · rw [rP_o (by omega), rP_o (by omega), xu_r (b := 151) (by decide), xu_r (b := 151) (by decide), xu_r (b := 151) (by decide), xu_r (b := 152) (by decide), xu_r (b := 152) (by decide), xu_r (b := 152) (by decide)]
      exact g2.2.2.2 i x hi
    · rw [rP_o (by omega), rP_o (by omega), rP_o (by omega), xu_r (b := 154) (by decide), xu_r (b := 154) (by decide), xu_r (b := 154) (by decide), xu_r (b := 155) (by decide), xu_r (b := 155) (by decide), xu_r (b := 155) (by decide), xu_r (b := 156) (by decide), xu_r (b := 156) (by decide), xu_r (b := 156) (by decide)]
      exact g3 k t e hk
end

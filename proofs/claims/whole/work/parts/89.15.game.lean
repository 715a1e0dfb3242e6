/-! game: the play, and the class. -/
def gmS (S : sT) (q h : Nat) (m : Int) (X : Nat → List Nat) : Nat → List Nat := fun j => washR S (if (j : Int) = m then putC (X j) q h else X j) h
def gmW (S : sT) (h : Nat) (X : Nat → List Nat) (j : Nat) : Int := ownL (sSuit S) (sDry S) (afterL S (sDry S) h (X j)) (h + sDry S)
def gmO (S : sT) (q1 q2 C h : Nat) (X : Nat → List Nat) : Int := (cntF (gmW S h X) q1 C 0 : Int) - (cntF (gmW S h X) q2 C 0 : Int)
abbrev btG (k : Nat) (v b : Int) : Prop := (k % 2 = 0 ∧ b < v) ∨ (k % 2 = 1 ∧ v < b)
def tkG (k : Nat) (v c : Int) (b : Int × Int) : Int × Int := if btG k v b.1 then (v, c) else b
theorem tkG_y {k : Nat} {v c : Int} {b : Int × Int} (h : btG k v b.1) : tkG k v c b = (v, c) := if_pos h
theorem tkG_n {k : Nat} {v c : Int} {b : Int × Int} (h : ¬ btG k v b.1) : tkG k v c b = b := if_neg h
def bsG (k : Nat) (val : Int → Int) : Nat → Nat → Int × Int → Int × Int
  | 0, _, b => b
  | n + 1, c, b => bsG k val n (c + 1) (tkG k (val c) c b)
def plG (q1 q2 k : Nat) : Nat := if k % 2 = 0 then q1 else q2
def gmV (S : sT) (q1 q2 C h : Nat) : Nat → Nat → (Nat → List Nat) → Int × Int
  | 0, k, X => (gmO S q1 q2 C (h + k) X, -1)
  | m + 1, k, X => bsG k (fun mv => (gmV S q1 q2 C h m (k + 1) (gmS S (plG q1 q2 k) (h + k) mv X)).1) C 0 ((gmV S q1 q2 C h m (k + 1) (gmS S (plG q1 q2 k) (h + k) (-1) X)).1, -1)
def okx (S : sT) (C : Nat) (X : Nat → List Nat) : Prop := ∀ j, j < C → okC (X j) ∧ ∀ x ∈ X j, x % 4 < sPa S
theorem washR_mem {S : sT} {l : List Nat} {h x : Nat} (hx : x ∈ washR S l h) : x ∈ l := by
  unfold washR at hx
  split at hx
  · exact washL_mem hx
  · exact hx
theorem gmS_ok {S : sT} {C q h : Nat} {m : Int} {X : Nat → List Nat} (O : okS S) (hq : q < sPa S) (hh : h < 1000) (hX : okx S C X) : okx S C (gmS S q h m X) := fun j hj => by
  have o1 := O.1
  unfold gmS
  by_cases w : (j : Int) = m
  · rw [if_pos w]
    exact ⟨washR_ok S h (putC_ok (hX j hj).1 (by omega) hh), fun x hx => putC_mem (by omega) hq (hX j hj).2 (washR_mem hx)⟩
  · rw [if_neg w]
    exact ⟨washR_ok S h (hX j hj).1, fun x hx => (hX j hj).2 x (washR_mem hx)⟩
theorem plG_lt {q1 q2 k p : Nat} (h1 : q1 < p) (h2 : q2 < p) : plG q1 q2 k < p := by
  unfold plG
  split
  · exact h1
  · exact h2
theorem gmO_rng (S : sT) (q1 q2 C h : Nat) (X : Nat → List Nat) : -(C : Int) ≤ gmO S q1 q2 C h X ∧ gmO S q1 q2 C h X ≤ C := by
  unfold gmO
  have a := cntF_le (gmW S h X) q1 C 0
  have b := cntF_le (gmW S h X) q2 C 0
  omega
theorem bsG_rng {k : Nat} {val : Int → Int} {C : Nat} (hv : ∀ c, -(C : Int) ≤ val c ∧ val c ≤ C) {N : Nat} : ∀ (n c : Nat) (b : Int × Int), n + c ≤ N → (-(C : Int) ≤ b.1 ∧ b.1 ≤ C) → (-1 ≤ b.2 ∧ b.2 < N) → (-(C : Int) ≤ (bsG k val n c b).1 ∧ (bsG k val n c b).1 ≤ C) ∧ (-1 ≤ (bsG k val n c b).2 ∧ (bsG k val n c b).2 < N)
  | 0, _, b, _, h1, h2 => ⟨h1, h2⟩
  | n + 1, c, b, hN, h1, h2 => by
    rw [bsG]
    have hc := hv c
    refine bsG_rng hv n (c + 1) _ (by omega) ?_ ?_
    · unfold tkG; split
      · exact hc
      · exact h1
    · unfold tkG; split
      · show -1 ≤ (c : Int) ∧ (c : Int) < N
        omega
      · exact h2
theorem gmV_rng {S : sT} {q1 q2 C h : Nat} : ∀ (m k : Nat) (X : Nat → List Nat), (-(C : Int) ≤ (gmV S q1 q2 C h m k X).1 ∧ (gmV S q1 q2 C h m k X).1 ≤ C) ∧ (-1 ≤ (gmV S q1 q2 C h m k X).2 ∧ (gmV S q1 q2 C h m k X).2 < (C : Int))
  | 0, k, X => ⟨gmO_rng S q1 q2 C (h + k) X, by show -1 ≤ (-1 : Int) ∧ (-1 : Int) < (C : Int); omega⟩
  | m + 1, k, X => by
    rw [gmV]
    exact bsG_rng (fun c => (gmV_rng m (k + 1) _).1) C 0 _ (by omega) (gmV_rng m (k + 1) _).1 ⟨by show -1 ≤ (-1 : Int); omega, by show (-1 : Int) < (C : Int); omega⟩
theorem nNe1 {x : Nat} (h : x < 2147483648) : ¬ nI x = (-1 : Int32) := by
  intro e
  rw [nz, lm1] at e
  exact absurd ((zI_eq (by omega) (by omega) (by omega) (by omega)).mp e) (by omega)
def gmR (I : Nat → Nat → Int32) (C h q1 q2 N : Nat) : Prop := I 102 1 = nI h ∧ I 102 2 = nI C ∧ I 102 3 = nI q1 ∧ I 102 4 = nI q2 ∧ I 102 5 = nI N
theorem xu_id (I : Nat → Nat → Int32) (r c : Nat) : xu I r c (I r c) = I := by
  funext b i
  by_cases w : b = r
  · subst w
    by_cases z : i = c
    · subst z; exact xu_s
    · exact xu_c z
  · rw [xu_r w]
theorem xu_2 (I : Nat → Nat → Int32) (r c : Nat) (x y : Int32) : xu (xu I r c x) r c y = xu I r c y := by
  funext b i
  by_cases w : b = r
  · subst w
    by_cases z : i = c
    · subst z; rw [xu_s, xu_s]
    · rw [xu_c z, xu_c z, xu_c z]
  · rw [xu_r w, xu_r w, xu_r w]
section
variable {S : sT} {C h q1 q2 N s : Nat}
theorem gm_out {I : Nat → Nat → Int32} {L : Nat → Nat → Int64} {X : Nat → List Nat} {k : Nat} (O : okS S) (cs : cS I s S) (hR : gmR I C h q1 q2 N) (hC : C ≤ 6) (hh : h < 900) (hk : k ≤ 4) (h1 : q1 < sPa S) (h2 : q2 < sPa S) (h12 : q1 ≠ q2) (hX : okx S C X) (hL : ∀ j, j < C → L (104 + k) j = lN (enc (X j))) : ∀ (f n j : Nat) (a : Int), n < f → n + j = C → -(j : Int) ≤ a → a ≤ j → mX1_outcome_13 I L f s (nI k) (nI (h + k)) (zI a) (nI j) = some (zI (a + ((cntF (gmW S (h + k) X) q1 n j : Int) - (cntF (gmW S (h + k) X) q2 n j : Int))))
  | 0, n, j, a, g1, _, _, _ => absurd g1 (by omega)
  | f + 1, n, j, a, g1, g2, g3, g4 => by
    have o1 := O.1
    obtain ⟨r1, r2, r3, r4, r5⟩ := hR
    rw [mX1_outcome_13]
    cases n with
    | zero => simp (disch := omega) only [↓reduceIte, Option.bind_some, Option.some.injEq, Prod.mk.injEq, and_self, and_true, true_and, eq_self, reduceCtorEq, not_false_eq_true, not_true_eq_false, or_true, true_or, or_false, false_or, bft, nAdd, nMul, nSub, nDiv, nRem, nAm1, nIx, nIn, bI_z, bI_o, ite_b1, ite_b0, zI_add, zI_sub, li0, li1, li2, li3, li4, li5, li6, li7, li8, li9, li10, li11, li12, li13, li14, li15, li16, li17, li18, li19, li20, li21, li22, li23, li24, li25, li26, li27, li28, li29, li30, li31, li32, li33, li34, li35, li36, li37, li40, li42, li43, li45, li47, li48, li57, li59, li60, li61, li62, li64, li80, li91, li93, li97, li99, li100, li122, li182, li199, li255, li300, li380, li400, li999, li1000, li3640, li4100, li65536, li99999, ln1, ln2, ln3, ln100, ln100000, tLe, fLe, tLt, fLt, tEq, fEq, zLe_t, zLe_f, zLt_t, zLt_f, zEq_t, zEq_f, nzLe_t, nzLe_f, znLe_t, znLe_f, nzLt_t, nzLt_f, znLt_t, znLt_f, nzEq_t, nzEq_f, znEq_t, znEq_f, r2]; simp [cntF]
    | succ n =>
      have hl := (hX j (by omega)).1
      have e1 := afterRain_ok (n := sDry S) (h := h + k) cs O (by omega) hl
      have e2 := ownerOf_ok (I := I) (s := s) (cS_dry cs) (by omega) (cS_suit cs) (by omega) (afterL_ok S (sDry S) (h + k) hl) (show h + k + sDry S < 100000 by omega)
      change _ = some (zI (gmW S (h + k) X j)) at e2
      have hw : gmW S (h + k) X j = -1 ∨ ∃ p : Nat, p < sPa S ∧ gmW S (h + k) X j = p := ownL_rng _ _ _ _ _ (fun x hx => (hX j (by omega)).2 x (afterL_mem _ _ hx))
      have ih := fun a g3 g4 => gm_out (k := k) O cs ⟨r1, r2, r3, r4, r5⟩ hC hh hk h1 h2 h12 hX hL f n (j + 1) a (by omega) (by omega) g3 g4
      have c1 := cntF_le (gmW S (h + k) X) q1 n (j + 1)
      have c2 := cntF_le (gmW S (h + k) X) q2 n (j + 1)
      rcases hw with ew | ⟨p, hp, ew⟩
      · rw [ew] at e2
        have d1 : cntF (gmW S (h + k) X) q1 (n + 1) j = 0 + cntF (gmW S (h + k) X) q1 n (j + 1) := by rw [cntF, ew, if_neg (by omega)]
        have d2 : cntF (gmW S (h + k) X) q2 (n + 1) j = 0 + cntF (gmW S (h + k) X) q2 n (j + 1) := by rw [cntF, ew, if_neg (by omega)]
        rw [d1, d2]
        simp (disch := omega) only [↓reduceIte, Option.bind_some, Option.some.injEq, Prod.mk.injEq, and_self, and_true, true_and, eq_self, reduceCtorEq, not_false_eq_true, not_true_eq_false, or_true, true_or, or_false, false_or, bft, nAdd, nMul, nSub, nDiv, nRem, nAm1, nIx, nIn, bI_z, bI_o, ite_b1, ite_b0, zI_add, zI_sub, li0, li1, li2, li3, li4, li5, li6, li7, li8, li9, li10, li11, li12, li13, li14, li15, li16, li17, li18, li19, li20, li21, li22, li23, li24, li25, li26, li27, li28, li29, li30, li31, li32, li33, li34, li35, li36, li37, li40, li42, li43, li45, li47, li48, li57, li59, li60, li61, li62, li64, li80, li91, li93, li97, li99, li100, li122, li182, li199, li255, li300, li380, li400, li999, li1000, li3640, li4100, li65536, li99999, ln1, ln2, ln3, ln100, ln100000, tLe, fLe, tLt, fLt, tEq, fEq, zLe_t, zLe_f, zLt_t, zLt_f, zEq_t, zEq_f, nzLe_t, nzLe_f, znLe_t, znLe_f, nzLt_t, nzLt_f, znLt_t, znLt_f, nzEq_t, nzEq_f, znEq_t, znEq_f, r2, r3, r4, hL j (by omega), cS_dry cs, e1, e2]
        rw [ih a (by omega) (by omega)]
        congr 2
        omega
      · rw [ew, zI_nat] at e2
        by_cases p1 : p = q1
        · skip
          have d1 : cntF (gmW S (h + k) X) q1 (n + 1) j = 1 + cntF (gmW S (h + k) X) q1 n (j + 1) := by rw [cntF, ew, if_pos (by omega)]
          have d2 : cntF (gmW S (h + k) X) q2 (n + 1) j = 0 + cntF (gmW S (h + k) X) q2 n (j + 1) := by rw [cntF, ew, if_neg (by omega)]
          rw [d1, d2]
          simp (disch := omega) only [↓reduceIte, Option.bind_some, Option.some.injEq, Prod.mk.injEq, and_self, and_true, true_and, eq_self, reduceCtorEq, not_false_eq_true, not_true_eq_false, or_true, true_or, or_false, false_or, bft, nAdd, nMul, nSub, nDiv, nRem, nAm1, nIx, nIn, bI_z, bI_o, ite_b1, ite_b0, zI_add, zI_sub, li0, li1, li2, li3, li4, li5, li6, li7, li8, li9, li10, li11, li12, li13, li14, li15, li16, li17, li18, li19, li20, li21, li22, li23, li24, li25, li26, li27, li28, li29, li30, li31, li32, li33, li34, li35, li36, li37, li40, li42, li43, li45, li47, li48, li57, li59, li60, li61, li62, li64, li80, li91, li93, li97, li99, li100, li122, li182, li199, li255, li300, li380, li400, li999, li1000, li3640, li4100, li65536, li99999, ln1, ln2, ln3, ln100, ln100000, tLe, fLe, tLt, fLt, tEq, fEq, zLe_t, zLe_f, zLt_t, zLt_f, zEq_t, zEq_f, nzLe_t, nzLe_f, znLe_t, znLe_f, nzLt_t, nzLt_f, znLt_t, znLt_f, nzEq_t, nzEq_f, znEq_t, znEq_f, r2, r3, r4, hL j (by omega), cS_dry cs, e1, e2]
          rw [show zI a + nI 1 = zI (a + 1) by rw [nz, zI_add]; rfl, ih (a + 1) (by omega) (by omega)]
          congr 2
          omega
        · by_cases p2 : p = q2
          · skip
            have d1 : cntF (gmW S (h + k) X) q1 (n + 1) j = 0 + cntF (gmW S (h + k) X) q1 n (j + 1) := by rw [cntF, ew, if_neg (by omega)]
            have d2 : cntF (gmW S (h + k) X) q2 (n + 1) j = 1 + cntF (gmW S (h + k) X) q2 n (j + 1) := by rw [cntF, ew, if_pos (by omega)]
            rw [d1, d2]
            simp (disch := omega) only [↓reduceIte, Option.bind_some, Option.some.injEq, Prod.mk.injEq, and_self, and_true, true_and, eq_self, reduceCtorEq, not_false_eq_true, not_true_eq_false, or_true, true_or, or_false, false_or, bft, nAdd, nMul, nSub, nDiv, nRem, nAm1, nIx, nIn, bI_z, bI_o, ite_b1, ite_b0, zI_add, zI_sub, li0, li1, li2, li3, li4, li5, li6, li7, li8, li9, li10, li11, li12, li13, li14, li15, li16, li17, li18, li19, li20, li21, li22, li23, li24, li25, li26, li27, li28, li29, li30, li31, li32, li33, li34, li35, li36, li37, li40, li42, li43, li45, li47, li48, li57, li59, li60, li61, li62, li64, li80, li91, li93, li97, li99, li100, li122, li182, li199, li255, li300, li380, li400, li999, li1000, li3640, li4100, li65536, li99999, ln1, ln2, ln3, ln100, ln100000, tLe, fLe, tLt, fLt, tEq, fEq, zLe_t, zLe_f, zLt_t, zLt_f, zEq_t, zEq_f, nzLe_t, nzLe_f, znLe_t, znLe_f, nzLt_t, nzLt_f, znLt_t, znLt_f, nzEq_t, nzEq_f, znEq_t, znEq_f, r2, r3, r4, hL j (by omega), cS_dry cs, e1, e2]
            rw [ih (a + -1) (by omega) (by omega)]
            congr 2
            omega
          · skip
            have d1 : cntF (gmW S (h + k) X) q1 (n + 1) j = 0 + cntF (gmW S (h + k) X) q1 n (j + 1) := by rw [cntF, ew, if_neg (by omega)]
            have d2 : cntF (gmW S (h + k) X) q2 (n + 1) j = 0 + cntF (gmW S (h + k) X) q2 n (j + 1) := by rw [cntF, ew, if_neg (by omega)]
            rw [d1, d2]
            simp (disch := omega) only [↓reduceIte, Option.bind_some, Option.some.injEq, Prod.mk.injEq, and_self, and_true, true_and, eq_self, reduceCtorEq, not_false_eq_true, not_true_eq_false, or_true, true_or, or_false, false_or, bft, nAdd, nMul, nSub, nDiv, nRem, nAm1, nIx, nIn, bI_z, bI_o, ite_b1, ite_b0, zI_add, zI_sub, li0, li1, li2, li3, li4, li5, li6, li7, li8, li9, li10, li11, li12, li13, li14, li15, li16, li17, li18, li19, li20, li21, li22, li23, li24, li25, li26, li27, li28, li29, li30, li31, li32, li33, li34, li35, li36, li37, li40, li42, li43, li45, li47, li48, li57, li59, li60, li61, li62, li64, li80, li91, li93, li97, li99, li100, li122, li182, li199, li255, li300, li380, li400, li999, li1000, li3640, li4100, li65536, li99999, ln1, ln2, ln3, ln100, ln100000, tLe, fLe, tLt, fLt, tEq, fEq, zLe_t, zLe_f, zLt_t, zLt_f, zEq_t, zEq_f, nzLe_t, nzLe_f, znLe_t, znLe_f, nzLt_t, nzLt_f, znLt_t, znLt_f, nzEq_t, nzEq_f, znEq_t, znEq_f, r2, r3, r4, hL j (by omega), cS_dry cs, e1, e2]
            rw [ih a (by omega) (by omega)]
            congr 2
            omega
theorem gm_mk {I : Nat → Nat → Int32} {X : Nat → List Nat} {k q : Nat} {mv : Int} (O : okS S) (cs : cS I s S) (hR : gmR I C h q1 q2 N) (hC : C ≤ 6) (hh : h < 900) (hk : k < 4) (hq : q < sPa S) (hm : -1 ≤ mv ∧ mv < C) (hX : okx S C X) : ∀ (f n j : Nat) (L : Nat → Nat → Int64), n < f → n + j = C → (∀ j, j < C → L (104 + k) j = lN (enc (X j))) → (∀ i, i < j → L (104 + (k + 1)) i = lN (enc (gmS S q (h + k) mv X i))) → ∃ M, mX1_make_11 I f L s (nI k) (zI mv) (nI q) (nI (h + k)) (nI j) = some M ∧ (∀ i, i < C → M (104 + (k + 1)) i = lN (enc (gmS S q (h + k) mv X i))) ∧ ∀ b, b ≠ 104 + (k + 1) → M b = L b
  | 0, n, j, L, g1, _, _, _ => absurd g1 (by omega)
  | f + 1, n, j, L, g1, g2, hL, hd => by
    have o1 := O.1
    obtain ⟨r1, r2, r3, r4, r5⟩ := hR
    rw [mX1_make_11]
    cases n with
    | zero =>
      refine ⟨L, ?_, fun i hi => hd i (by omega), fun _ _ => rfl⟩
      simp (disch := omega) only [↓reduceIte, Option.bind_some, Option.some.injEq, Prod.mk.injEq, and_self, and_true, true_and, eq_self, reduceCtorEq, not_false_eq_true, not_true_eq_false, or_true, true_or, or_false, false_or, bft, nAdd, nMul, nSub, nDiv, nRem, nAm1, nIx, nIn, bI_z, bI_o, ite_b1, ite_b0, zI_add, zI_sub, li0, li1, li2, li3, li4, li5, li6, li7, li8, li9, li10, li11, li12, li13, li14, li15, li16, li17, li18, li19, li20, li21, li22, li23, li24, li25, li26, li27, li28, li29, li30, li31, li32, li33, li34, li35, li36, li37, li40, li42, li43, li45, li47, li48, li57, li59, li60, li61, li62, li64, li80, li91, li93, li97, li99, li100, li122, li182, li199, li255, li300, li380, li400, li999, li1000, li3640, li4100, li65536, li99999, ln1, ln2, ln3, ln100, ln100000, tLe, fLe, tLt, fLt, tEq, fEq, zLe_t, zLe_f, zLt_t, zLt_f, zEq_t, zEq_f, nzLe_t, nzLe_f, znLe_t, znLe_f, nzLt_t, nzLt_f, znLt_t, znLt_f, nzEq_t, nzEq_f, znEq_t, znEq_f, r2]
    | succ n =>
      have hl := (hX j (by omega)).1
      have ew := with_ok (q := q) hl (by omega) (show h + k < 1000 by omega)
      have st : ∀ l, okC l → gmS S q (h + k) mv X j = washR S l (h + k) → ∃ M, mX1_make_51 I (fun L a1 a2 a3 a4 a5 a6 => mX1_make_11 I f L a1 a2 a3 a4 a5 a6) L s (nI k) (zI mv) (nI q) (nI (h + k)) (nI j) (lN (enc l)) = some M ∧ (∀ i, i < C → M (104 + (k + 1)) i = lN (enc (gmS S q (h + k) mv X i))) ∧ ∀ b, b ≠ 104 + (k + 1) → M b = L b := by
        intro l hlo hs
        have e1 := afterRain_ok (n := 1) (h := h + k) cs O (by omega) hlo
        change _ = some (lN (enc (washR S l (h + k)))) at e1
        rw [← hs] at e1
        have z : ∀ b, b ≠ 104 + (k + 1) → xu L (104 + (k + 1)) j (lN (enc (gmS S q (h + k) mv X j))) b = L b := fun b hb => xu_r hb
        obtain ⟨M, m1, m2, m3⟩ := gm_mk (k := k) O cs ⟨r1, r2, r3, r4, r5⟩ hC hh hk hq hm hX f n (j + 1) (xu L (104 + (k + 1)) j (lN (enc (gmS S q (h + k) mv X j)))) (by omega) (by omega) (fun i hi => by rw [z (104 + k) (by omega)]; exact hL i hi) (fun i hi => by
          by_cases w : i = j
          · subst w; exact xu_s
          · rw [xu_c w]; exact hd i (by omega))
        refine ⟨M, ?_, m2, fun b hb => (m3 b hb).trans (z b hb)⟩
        unfold mX1_make_51
        simp (disch := omega) only [↓reduceIte, Option.bind_some, Option.some.injEq, Prod.mk.injEq, and_self, and_true, true_and, eq_self, reduceCtorEq, not_false_eq_true, not_true_eq_false, or_true, true_or, or_false, false_or, bft, nAdd, nMul, nSub, nDiv, nRem, nAm1, nIx, nIn, bI_z, bI_o, ite_b1, ite_b0, zI_add, zI_sub, li0, li1, li2, li3, li4, li5, li6, li7, li8, li9, li10, li11, li12, li13, li14, li15, li16, li17, li18, li19, li20, li21, li22, li23, li24, li25, li26, li27, li28, li29, li30, li31, li32, li33, li34, li35, li36, li37, li40, li42, li43, li45, li47, li48, li57, li59, li60, li61, li62, li64, li80, li91, li93, li97, li99, li100, li122, li182, li199, li255, li300, li380, li400, li999, li1000, li3640, li4100, li65536, li99999, ln1, ln2, ln3, ln100, ln100000, tLe, fLe, tLt, fLt, tEq, fEq, zLe_t, zLe_f, zLt_t, zLt_f, zEq_t, zEq_f, nzLe_t, nzLe_f, znLe_t, znLe_f, nzLt_t, nzLt_f, znLt_t, znLt_f, nzEq_t, nzEq_f, znEq_t, znEq_f, e1]
        exact m1
      by_cases w : (j : Int) = mv
      · obtain ⟨M, m1, m2⟩ := st _ (putC_ok (q := q) hl (by omega) (show h + k < 1000 by omega)) (by unfold gmS; rw [if_pos w])
        refine ⟨M, ?_, m2⟩
        rw [← w, zI_nat] at m1 ⊢
        simp (disch := omega) only [↓reduceIte, Option.bind_some, Option.some.injEq, Prod.mk.injEq, and_self, and_true, true_and, eq_self, reduceCtorEq, not_false_eq_true, not_true_eq_false, or_true, true_or, or_false, false_or, bft, nAdd, nMul, nSub, nDiv, nRem, nAm1, nIx, nIn, bI_z, bI_o, ite_b1, ite_b0, zI_add, zI_sub, li0, li1, li2, li3, li4, li5, li6, li7, li8, li9, li10, li11, li12, li13, li14, li15, li16, li17, li18, li19, li20, li21, li22, li23, li24, li25, li26, li27, li28, li29, li30, li31, li32, li33, li34, li35, li36, li37, li40, li42, li43, li45, li47, li48, li57, li59, li60, li61, li62, li64, li80, li91, li93, li97, li99, li100, li122, li182, li199, li255, li300, li380, li400, li999, li1000, li3640, li4100, li65536, li99999, ln1, ln2, ln3, ln100, ln100000, tLe, fLe, tLt, fLt, tEq, fEq, zLe_t, zLe_f, zLt_t, zLt_f, zEq_t, zEq_f, nzLe_t, nzLe_f, znLe_t, znLe_f, nzLt_t, nzLt_f, znLt_t, znLt_f, nzEq_t, nzEq_f, znEq_t, znEq_f, r2, hL j (by omega), ew]
        exact m1
      · obtain ⟨M, m1, m2⟩ := st (X j) hl (by unfold gmS; rw [if_neg w])
        refine ⟨M, ?_, m2⟩
        simp (disch := omega) only [↓reduceIte, Option.bind_some, Option.some.injEq, Prod.mk.injEq, and_self, and_true, true_and, eq_self, reduceCtorEq, not_false_eq_true, not_true_eq_false, or_true, true_or, or_false, false_or, bft, nAdd, nMul, nSub, nDiv, nRem, nAm1, nIx, nIn, bI_z, bI_o, ite_b1, ite_b0, zI_add, zI_sub, li0, li1, li2, li3, li4, li5, li6, li7, li8, li9, li10, li11, li12, li13, li14, li15, li16, li17, li18, li19, li20, li21, li22, li23, li24, li25, li26, li27, li28, li29, li30, li31, li32, li33, li34, li35, li36, li37, li40, li42, li43, li45, li47, li48, li57, li59, li60, li61, li62, li64, li80, li91, li93, li97, li99, li100, li122, li182, li199, li255, li300, li380, li400, li999, li1000, li3640, li4100, li65536, li99999, ln1, ln2, ln3, ln100, ln100000, tLe, fLe, tLt, fLt, tEq, fEq, zLe_t, zLe_f, zLt_t, zLt_f, zEq_t, zEq_f, nzLe_t, nzLe_f, znLe_t, znLe_f, nzLt_t, nzLt_f, znLt_t, znLt_f, nzEq_t, nzEq_f, znEq_t, znEq_f, r2, hL j (by omega)]
        exact m1
def k0G (k : Nat) (J : Nat → Nat → Int32) (x : Int32) : Nat → Nat → Int32 := if k = 0 then xu J 102 6 x else J
theorem k0G_r {k b : Nat} {J : Nat → Nat → Int32} {x : Int32} (h : b ≠ 102) : k0G k J x b = J b := by
  unfold k0G
  split
  · exact xu_r h
  · rfl
theorem k0G_c {k i : Nat} {J : Nat → Nat → Int32} {x : Int32} (h : i ≠ 6) : k0G k J x 102 i = J 102 i := by
  unfold k0G
  split
  · exact xu_c h
  · rfl
theorem k0G_2 {k : Nat} {J : Nat → Nat → Int32} {x y : Int32} : k0G k (k0G k J x) y = k0G k J y := by
  unfold k0G
  split
  · exact xu_2 _ _ _ _ _
  · rfl
theorem k0G_gm {k : Nat} {J : Nat → Nat → Int32} {x : Int32} (hR : gmR J C h q1 q2 N) : gmR (k0G k J x) C h q1 q2 N := by
  unfold gmR
  rw [k0G_c (by decide), k0G_c (by decide), k0G_c (by decide), k0G_c (by decide), k0G_c (by decide)]
  exact hR
theorem p102 {r : (Nat → Nat → Int32) → (Nat → Nat → Int64) → Nat → Int32 → Option (Int32 × (Nat → Nat → Int32) × (Nat → Nat → Int64))} {b33 : (Nat → Nat → Int32) → (Nat → Nat → Int64) → Nat → Int32 → Int32 → Int32 → Int32 → Option (Int32 × (Nat → Nat → Int32) × (Nat → Nat → Int64))} {J : Nat → Nat → Int32} {M : Nat → Nat → Int64} {k : Nat} {a3 a5 a6 : Int32} (hk : k ≤ 4) : mX1_play_102 r b33 J M s (nI k) a3 a5 a6 = b33 (k0G k J a5) M s (nI k) a3 a6 (a5 + 1) := by
  unfold mX1_play_102 k0G
  rw [xu_id]
  by_cases w : k = 0
  · subst w
    rw [if_pos rfl, if_pos (show nI 0 = (0 : Int32) from rfl)]
  · rw [if_neg w, if_neg (show ¬ nI k = (0 : Int32) from fun y => w ((nEq (b := 0) (by omega) (by omega)).mp y))]
theorem gm_play (O : okS S) (ps : s = 13 ∨ 171 < s) (hC : C ≤ 6) (hh : h < 900) (h1 : q1 < sPa S) (h2 : q2 < sPa S) (h12 : q1 ≠ q2) (hN : N ≤ 4) (hN1 : 1 ≤ N) : ∀ (m k f : Nat) (X : Nat → List Nat) (I : Nat → Nat → Int32) (L : Nat → Nat → Int64), m < f → m + k = N → cS I s S → gmR I C h q1 q2 N → okx S C X → (∀ j, j < C → L (104 + k) j = lN (enc (X j))) → ∃ M, zX1_play f I L s (nI k) = some (zI (gmV S q1 q2 C h m k X).1, k0G k I (zI (gmV S q1 q2 C h m k X).2), M) ∧ ∀ b, b ≤ 104 + k ∨ 108 < b → M b = L b
  | m, k, 0, X, I, L, g, _, _, _, _, _ => absurd g (by omega)
  | 0, k, f + 1, X, I, L, _, g2, cs, hR, hX, hL => by
    have o1 := O.1
    have e := gm_out (k := k) O cs hR hC hh (by omega) h1 h2 h12 hX hL xf C 0 0 (by unfold xf; omega) (by omega) (by omega) (by omega)
    obtain ⟨r1, r2, r3, r4, r5⟩ := hR
    refine ⟨L, ?_, fun _ _ => rfl⟩
    have e0 : mX1_outcome I L s (nI k) = some (zI (gmO S q1 q2 C (h + k) X)) := by
      unfold mX1_outcome
      rw [r1, nAdd]
      refine Eq.trans e ?_
      rw [Int.zero_add]
      rfl
    rw [zX1_play, gmV]
    unfold mX1_play k0G
    rw [if_neg (show ¬ k = 0 by omega)]
    simp (disch := omega) only [↓reduceIte, Option.bind_some, Option.some.injEq, Prod.mk.injEq, and_self, and_true, true_and, eq_self, reduceCtorEq, not_false_eq_true, not_true_eq_false, or_true, true_or, or_false, false_or, bft, nAdd, nMul, nSub, nDiv, nRem, nAm1, nIx, nIn, bI_z, bI_o, ite_b1, ite_b0, zI_add, zI_sub, li0, li1, li2, li3, li4, li5, li6, li7, li8, li9, li10, li11, li12, li13, li14, li15, li16, li17, li18, li19, li20, li21, li22, li23, li24, li25, li26, li27, li28, li29, li30, li31, li32, li33, li34, li35, li36, li37, li40, li42, li43, li45, li47, li48, li57, li59, li60, li61, li62, li64, li80, li91, li93, li97, li99, li100, li122, li182, li199, li255, li300, li380, li400, li999, li1000, li3640, li4100, li65536, li99999, ln1, ln2, ln3, ln100, ln100000, tLe, fLe, tLt, fLt, tEq, fEq, zLe_t, zLe_f, zLt_t, zLt_f, zEq_t, zEq_f, nzLe_t, nzLe_f, znLe_t, znLe_f, nzLt_t, nzLt_f, znLt_t, znLt_f, nzEq_t, nzEq_f, znEq_t, znEq_f, r5, e0]
  | m + 1, k, f + 1, X, I, L, g1, g2, cs, hR, hX, hL => by
    have o1 := O.1
    have hp := plG_lt (k := k) h1 h2
    generalize hpl : plG q1 q2 k = p at hp
    generalize hval : (fun mv => (gmV S q1 q2 C h m (k + 1) (gmS S p (h + k) mv X)).1) = val
    have hv : ∀ mv, (gmV S q1 q2 C h m (k + 1) (gmS S p (h + k) mv X)).1 = val mv := fun mv => by rw [← hval]
    have hvr : ∀ mv, -(C : Int) ≤ val mv ∧ val mv ≤ C := fun mv => by rw [← hv]; exact (gmV_rng m (k + 1) _).1
    have child : ∀ (mv : Int) (J : Nat → Nat → Int32) (M : Nat → Nat → Int64) (a3 a4 : Int32) (b33 : (Nat → Nat → Int32) → (Nat → Nat → Int64) → Nat → Int32 → Int32 → Int32 → Int32 → Option (Int32 × (Nat → Nat → Int32) × (Nat → Nat → Int64))), -1 ≤ mv ∧ mv < C → cS J s S → gmR J C h q1 q2 N → (∀ j, j < C → M (104 + k) j = lN (enc (X j))) → ∃ M2, mX1_play_62 (fun I L a1 a2 => zX1_play f I L a1 a2) b33 J M s (nI k) a3 a4 (zI mv) (nI p) (zI mv) (nI k) s = (if zI mv = (-1 : Int32) then b33 (k0G k J (zI mv)) M2 s (nI k) a3 (zI (val mv)) (zI mv + 1) else (if a3 = 0 then (if a4 ≤ zI (val mv) then b33 J M2 s (nI k) a3 a4 (zI mv + 1) else b33 (k0G k J (zI mv)) M2 s (nI k) a3 (zI (val mv)) (zI mv + 1)) else (if zI (val mv) ≤ a4 then b33 J M2 s (nI k) a3 a4 (zI mv + 1) else b33 (k0G k J (zI mv)) M2 s (nI k) a3 (zI (val mv)) (zI mv + 1)))) ∧ ∀ b, b ≤ 104 + k ∨ 108 < b → M2 b = M b := by
      intro mv J M a3 a4 b33 hm csJ hRJ hMJ
      obtain ⟨M1, m1, m2, m3⟩ := gm_mk (k := k) (q := p) O csJ hRJ hC hh (by omega) hp hm hX xf C 0 M (by unfold xf; omega) (by omega) hMJ (fun i hi => absurd hi (by omega))
      obtain ⟨M2, n1, n2⟩ := gm_play O ps hC hh h1 h2 h12 hN hN1 m (k + 1) f (gmS S p (h + k) mv X) J M1 (by omega) (by omega) csJ hRJ (gmS_ok O hp (by omega) hX) m2
      rw [hv, show k0G (k + 1) J _ = J from if_neg (by omega)] at n1
      refine ⟨M2, ?_, fun b hb => by rw [n2 b (by omega), m3 b (by omega)]⟩
      have e0 : mX1_make J M s (nI k) (zI mv) (nI p) = some M1 := by
        unfold mX1_make
        rw [hRJ.1, nAdd]
        exact m1
      unfold mX1_play_62
      rw [e0, Option.bind_some, show nI k + 1 = nI (k + 1) from nAdd k 1]
      show Option.bind (zX1_play f J M1 s (nI (k + 1))) _ = _
      rw [n1, Option.bind_some, p102 (by omega)]
    have loop : ∀ (n c g : Nat) (b : Int × Int) (J : Nat → Nat → Int32) (M : Nat → Nat → Int64), n < g → n + c = C → (-(C : Int) ≤ b.1 ∧ b.1 ≤ C) → cS J s S → gmR J C h q1 q2 N → (k = 0 → J 102 6 = zI b.2) → (∀ j, j < C → M (104 + k) j = lN (enc (X j))) → ∃ M2, mX1_play_33 (fun I L a1 a2 => zX1_play f I L a1 a2) g J M s (nI k) (nI (1 - k % 2)) (zI b.1) (nI c) = some (zI (bsG k val n c b).1, k0G k J (zI (bsG k val n c b).2), M2) ∧ ∀ b, b ≤ 104 + k ∨ 108 < b → M2 b = M b := by
      intro n
      induction n with
      | zero =>
        intro c g b J M hg hc hb csJ hRJ h6 hM
        cases g with
        | zero => exact absurd hg (by omega)
        | succ g =>
          refine ⟨M, ?_, fun _ _ => rfl⟩
          rw [mX1_play_33, hRJ.2.1, bsG, if_pos ((nLe (by omega) (by omega)).mpr (by omega))]
          have : k0G k J (zI b.2) = J := by
            unfold k0G
            by_cases w : k = 0
            · rw [if_pos w, ← h6 w, xu_id]
            · rw [if_neg w]
          rw [this]
      | succ n ih =>
        intro c g b J M hg hc hb csJ hRJ h6 hM
        cases g with
        | zero => exact absurd hg (by omega)
        | succ g =>
          obtain ⟨M1, c1, c2⟩ := child c J M (nI (1 - k % 2)) (zI b.1) (fun I L a1 a2 a3 a4 a5 => mX1_play_33 (fun I L a1 a2 => zX1_play f I L a1 a2) g I L a1 a2 a3 a4 a5) ⟨by omega, by omega⟩ csJ hRJ hM
          have hM1 : ∀ j, j < C → M1 (104 + k) j = lN (enc (X j)) := fun j hj => by rw [c2 (104 + k) (by omega)]; exact hM j hj
          have vr := hvr c
          rw [zI_nat, show nI c + 1 = nI (c + 1) from nAdd c 1] at c1
          -- the turn's painter
          have start : ∀ v, mX1_play_62 (fun I L a1 a2 => zX1_play f I L a1 a2) (fun I L a1 a2 a3 a4 a5 => mX1_play_33 (fun I L a1 a2 => zX1_play f I L a1 a2) g I L a1 a2 a3 a4 a5) J M s (nI k) (nI (1 - k % 2)) (zI b.1) (nI c) (nI p) (nI c) (nI k) s = v → mX1_play_33 (fun I L a1 a2 => zX1_play f I L a1 a2) (g + 1) J M s (nI k) (nI (1 - k % 2)) (zI b.1) (nI c) = v := by
            intro v hv
            rw [mX1_play_33, hRJ.2.1, if_neg (fun y => absurd ((nLe (by omega) (by omega)).mp y) (by omega)), hRJ.2.2.1, hRJ.2.2.2.1]
            rcases (show k % 2 = 0 ∨ k % 2 = 1 by omega) with w | w
            · have : p = q1 := by rw [← hpl]; exact if_pos w
              rw [w] at hv ⊢
              rw [if_neg (by decide), ← this]
              exact hv
            · have : p = q2 := by rw [← hpl]; exact if_neg (by omega)
              rw [w] at hv ⊢
              rw [if_pos (by decide), ← this]
              exact hv
          rw [bsG]
          by_cases bt : btG k (val c) b.1
          · rw [tkG_y bt]
            obtain ⟨M2, u1, u2⟩ := ih (c + 1) g (val c, c) (k0G k J (nI c)) M1 (by omega) (by omega) vr (cS_congr (fun b q1 q2 => k0G_r (by omega)) csJ) (k0G_gm hRJ) (fun w => by unfold k0G; rw [if_pos w, xu_s, zI_nat]) hM1
            rw [k0G_2] at u1
            refine ⟨M2, start _ (c1.trans ?_), fun b hb => (u2 b hb).trans (c2 b hb)⟩
            rw [if_neg (nNe1 (by omega)), ← u1]
            rcases bt with ⟨w1, w2⟩ | ⟨w1, w2⟩
            · rw [w1, if_neg (by decide), if_neg (fun y => absurd ((zI_le (by omega) (by omega) (by omega) (by omega)).mp y) (by omega))]
            · rw [w1, if_pos (by decide), if_neg (fun y => absurd ((zI_le (by omega) (by omega) (by omega) (by omega)).mp y) (by omega))]
          · rw [tkG_n bt]
            obtain ⟨M2, u1, u2⟩ := ih (c + 1) g b J M1 (by omega) (by omega) hb csJ hRJ h6 hM1
            refine ⟨M2, start _ (c1.trans ?_), fun b hb => (u2 b hb).trans (c2 b hb)⟩
            rw [if_neg (nNe1 (by omega)), ← u1]
            rcases (show k % 2 = 0 ∨ k % 2 = 1 by omega) with w | w
            · rw [w, if_neg (by decide), if_pos ((zI_le (by omega) (by omega) (by omega) (by omega)).mpr (by omega))]
            · rw [w, if_pos (by decide), if_pos ((zI_le (by omega) (by omega) (by omega) (by omega)).mpr (by omega))]
    -- from no paint on
    obtain ⟨M1, c1, c2⟩ := child (-1) I L (nI (1 - k % 2)) (nI 0) (fun I L a1 a2 a3 a4 a5 => mX1_play_33 (fun I L a1 a2 => zX1_play f I L a1 a2) 999999 I L a1 a2 a3 a4 a5) ⟨by omega, by omega⟩ cs hR hL
    obtain ⟨M2, u1, u2⟩ := loop C 0 999999 (val (-1), -1) (k0G k I (zI (-1))) M1 (by omega) (by omega) (hvr (-1)) (cS_congr (fun b q1 q2 => k0G_r (by omega)) cs) (k0G_gm hR) (fun w => by unfold k0G; rw [if_pos w, xu_s]) (fun j hj => by rw [c2 (104 + k) (by omega)]; exact hL j hj)
    rw [k0G_2] at u1
    rw [if_pos (show zI (-1) = (-1 : Int32) from lm1.symm), show zI (-1) + 1 = nI 0 by decide +kernel] at c1
    have eg : gmV S q1 q2 C h (m + 1) k X = bsG k val C 0 (val (-1), -1) := by rw [gmV, hpl, hval, hv (-1)]
    rw [eg]
    refine ⟨M2, ?_, fun b hb => (u2 b hb).trans (c2 b hb)⟩
    have c3 := c1.trans u1
    have st : ∀ e : Int32, e = nI (1 - k % 2) → mX1_play_26 (fun I L a1 a2 => zX1_play f I L a1 a2) I L s (nI k) e = some (zI (bsG k val C 0 (val (-1), -1)).1, k0G k I (zI (bsG k val C 0 (val (-1), -1)).2), M2) := by
      intro e he
      subst he
      unfold mX1_play_26
      rw [xf_s, mX1_play_33, hR.2.1, hR.2.2.1, hR.2.2.2.1, if_neg (show ¬ nI C ≤ (-1 : Int32) from fun y => by rw [nz, lm1] at y; exact absurd ((zI_le (by omega) (by omega) (by omega) (by omega)).mp y) (by omega))]
      rw [← c3, lm1]
      rcases (show k % 2 = 0 ∨ k % 2 = 1 by omega) with w | w
      · have : p = q1 := by rw [← hpl]; exact if_pos w
        rw [w, if_neg (by decide), ← this]
        rfl
      · have : p = q2 := by rw [← hpl]; exact if_neg (by omega)
        rw [w, if_pos (by decide), ← this]
        rfl
    rw [zX1_play]
    unfold mX1_play
    rw [hR.2.2.2.2, if_pos ((nLt (by omega) (by omega)).mpr (by omega)), show xrem (nI k) (2 : Int32) = nI (k % 2) from nRem (d := 2) (by omega) (by omega) (by omega)]
    rcases (show k % 2 = 0 ∨ k % 2 = 1 by omega) with w | w
    · rw [w, if_pos (by rfl)]
      exact st _ (by rw [w]; rfl)
    · rw [w, if_neg (by decide)]
      exact st _ (by rw [w]; rfl)
end

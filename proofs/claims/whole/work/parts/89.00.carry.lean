/-! Images of the reference: rows carried there and back. -/
theorem crow0_go {r z : Nat} (hr : r ≠ 170) (hr2 : r ≠ 123) (hz : z < 10000) : ∀ (f m k p : Nat) (I : Nat → Nat → Int32), m < f → m + k = z → I 123 64 = nI 0 → I 123 63 = nI p → p + m ≤ 20500 → ∃ J, mX12_carryRow_2 f I r z (nI k) = some J ∧ J 123 63 = nI (p + m) ∧ (∀ i, i < m → J 170 (p + i) = I r (k + i)) ∧ (∀ j, j < p ∨ p + m ≤ j → J 170 j = I 170 j) ∧ ∀ b i, b ≠ 170 → b ≠ 123 ∨ i ≠ 63 → J b i = I b i
  | 0, m, k, p, I, h1, _, _, _, _ => absurd h1 (by omega)
  | f + 1, m, k, p, I, h1, h2, h3, h4, h5 => by
    rw [mX12_carryRow_2]
    cases m with
    | zero =>
      refine ⟨I, ?_, h4, fun i hi => absurd hi (by omega), fun _ _ => rfl, fun _ _ _ _ => rfl⟩
      simp (disch := omega) only [↓reduceIte, Option.bind_some, Option.some.injEq, Prod.mk.injEq, and_self, and_true, true_and, eq_self, reduceCtorEq, not_false_eq_true, not_true_eq_false, or_true, true_or, or_false, false_or, bft, nAdd, nMul, nSub, nDiv, nRem, nAm1, nIx, nIn, bI_z, bI_o, ite_b1, ite_b0, zI_add, zI_sub, li0, li1, li2, li3, li4, li5, li6, li7, li8, li9, li10, li11, li12, li13, li14, li15, li16, li17, li18, li19, li20, li21, li22, li23, li24, li25, li26, li27, li28, li29, li30, li31, li32, li33, li34, li35, li36, li37, li40, li42, li43, li45, li47, li48, li57, li59, li60, li61, li62, li64, li80, li91, li93, li97, li99, li100, li122, li182, li199, li255, li300, li380, li400, li999, li1000, li3640, li4100, li65536, li99999, ln1, ln2, ln3, ln100, ln100000, tLe, fLe, tLt, fLt, tEq, fEq, zLe_t, zLe_f, zLt_t, zLt_f, zEq_t, zEq_f, nzLe_t, nzLe_f, znLe_t, znLe_f, nzLt_t, nzLt_f, znLt_t, znLt_f, nzEq_t, nzEq_f, znEq_t, znEq_f]
    | succ m =>
      obtain ⟨J, j1, j2, j3, j4, j5⟩ := crow0_go (r := r) hr hr2 hz f m (k + 1) (p + 1) (xu (xu I 170 p (I r k)) 123 63 (nI (p + 1))) (by omega) (by omega) (by rw [xu_c (by decide), xu_r (by decide)]; exact h3) (by rw [xu_s]) (by omega)
      refine ⟨J, ?_, by rw [j2, show p + 1 + m = p + (m + 1) by omega], fun i hi => ?_, fun j hj => ?_, fun b i hb hi => ?_⟩
      · simp (disch := omega) only [↓reduceIte, Option.bind_some, Option.some.injEq, Prod.mk.injEq, and_self, and_true, true_and, eq_self, reduceCtorEq, not_false_eq_true, not_true_eq_false, or_true, true_or, or_false, false_or, bft, nAdd, nMul, nSub, nDiv, nRem, nAm1, nIx, nIn, bI_z, bI_o, ite_b1, ite_b0, zI_add, zI_sub, li0, li1, li2, li3, li4, li5, li6, li7, li8, li9, li10, li11, li12, li13, li14, li15, li16, li17, li18, li19, li20, li21, li22, li23, li24, li25, li26, li27, li28, li29, li30, li31, li32, li33, li34, li35, li36, li37, li40, li42, li43, li45, li47, li48, li57, li59, li60, li61, li62, li64, li80, li91, li93, li97, li99, li100, li122, li182, li199, li255, li300, li380, li400, li999, li1000, li3640, li4100, li65536, li99999, ln1, ln2, ln3, ln100, ln100000, tLe, fLe, tLt, fLt, tEq, fEq, zLe_t, zLe_f, zLt_t, zLt_f, zEq_t, zEq_f, nzLe_t, nzLe_f, znLe_t, znLe_f, nzLt_t, nzLt_f, znLt_t, znLt_f, nzEq_t, nzEq_f, znEq_t, znEq_f, xu_s, xu_r, xu_c, xrow_at, xrow_r, h3, h4, mX12_carryRow_42]
        exact j1
      · cases i with
        | zero => rw [Nat.add_zero, j4 p (by omega), xu_r (by decide), xu_s, Nat.add_zero]
        | succ i => rw [show p + (i + 1) = p + 1 + i by omega, j3 i (by omega), show k + (i + 1) = k + 1 + i by omega, xu_r hr2, xu_r hr]
      · rw [j4 j (by omega), xu_r (by decide), xu_c (by omega)]
      · rw [j5 b i hb hi, xu_off (by omega), xu_r hb]
theorem crow1_go {r z : Nat} (hr : r ≠ 170) (hr2 : r ≠ 123) (hz : z < 10000) : ∀ (f m k p : Nat) (I : Nat → Nat → Int32), m < f → m + k = z → I 123 64 = nI 1 → I 123 63 = nI p → p + m ≤ 20500 → ∃ J, mX12_carryRow_2 f I r z (nI k) = some J ∧ J 123 63 = nI (p + m) ∧ (∀ i, i < m → J r (k + i) = I 170 (p + i)) ∧ (∀ j, j < k ∨ k + m ≤ j → J r j = I r j) ∧ ∀ b i, b ≠ r → b ≠ 123 ∨ i ≠ 63 → J b i = I b i
  | 0, m, k, p, I, h1, _, _, _, _ => absurd h1 (by omega)
  | f + 1, m, k, p, I, h1, h2, h3, h4, h5 => by
    rw [mX12_carryRow_2]
    cases m with
    | zero =>
      refine ⟨I, ?_, h4, fun i hi => absurd hi (by omega), fun _ _ => rfl, fun _ _ _ _ => rfl⟩
      simp (disch := omega) only [↓reduceIte, Option.bind_some, Option.some.injEq, Prod.mk.injEq, and_self, and_true, true_and, eq_self, reduceCtorEq, not_false_eq_true, not_true_eq_false, or_true, true_or, or_false, false_or, bft, nAdd, nMul, nSub, nDiv, nRem, nAm1, nIx, nIn, bI_z, bI_o, ite_b1, ite_b0, zI_add, zI_sub, li0, li1, li2, li3, li4, li5, li6, li7, li8, li9, li10, li11, li12, li13, li14, li15, li16, li17, li18, li19, li20, li21, li22, li23, li24, li25, li26, li27, li28, li29, li30, li31, li32, li33, li34, li35, li36, li37, li40, li42, li43, li45, li47, li48, li57, li59, li60, li61, li62, li64, li80, li91, li93, li97, li99, li100, li122, li182, li199, li255, li300, li380, li400, li999, li1000, li3640, li4100, li65536, li99999, ln1, ln2, ln3, ln100, ln100000, tLe, fLe, tLt, fLt, tEq, fEq, zLe_t, zLe_f, zLt_t, zLt_f, zEq_t, zEq_f, nzLe_t, nzLe_f, znLe_t, znLe_f, nzLt_t, nzLt_f, znLt_t, znLt_f, nzEq_t, nzEq_f, znEq_t, znEq_f]
    | succ m =>
      obtain ⟨J, j1, j2, j3, j4, j5⟩ := crow1_go (r := r) hr hr2 hz f m (k + 1) (p + 1) (xu (xu I r k (I 170 p)) 123 63 (nI (p + 1))) (by omega) (by omega) (by rw [xu_c (by decide), xu_r (by omega)]; exact h3) (by rw [xu_s]) (by omega)
      refine ⟨J, ?_, by rw [j2, show p + 1 + m = p + (m + 1) by omega], fun i hi => ?_, fun j hj => ?_, fun b i hb hi => ?_⟩
      · have e : xu I r k (I 170 p) 123 63 = nI p := by rw [xu_r (by omega)]; exact h4
        simp (disch := omega) only [↓reduceIte, Option.bind_some, Option.some.injEq, Prod.mk.injEq, and_self, and_true, true_and, eq_self, reduceCtorEq, not_false_eq_true, not_true_eq_false, or_true, true_or, or_false, false_or, bft, nAdd, nMul, nSub, nDiv, nRem, nAm1, nIx, nIn, bI_z, bI_o, ite_b1, ite_b0, zI_add, zI_sub, li0, li1, li2, li3, li4, li5, li6, li7, li8, li9, li10, li11, li12, li13, li14, li15, li16, li17, li18, li19, li20, li21, li22, li23, li24, li25, li26, li27, li28, li29, li30, li31, li32, li33, li34, li35, li36, li37, li40, li42, li43, li45, li47, li48, li57, li59, li60, li61, li62, li64, li80, li91, li93, li97, li99, li100, li122, li182, li199, li255, li300, li380, li400, li999, li1000, li3640, li4100, li65536, li99999, ln1, ln2, ln3, ln100, ln100000, tLe, fLe, tLt, fLt, tEq, fEq, zLe_t, zLe_f, zLt_t, zLt_f, zEq_t, zEq_f, nzLe_t, nzLe_f, znLe_t, znLe_f, nzLt_t, nzLt_f, znLt_t, znLt_f, nzEq_t, nzEq_f, znEq_t, znEq_f, h3, h4, mX12_carryRow_42, e]
        exact j1
      · cases i with
        | zero => rw [Nat.add_zero, j4 k (by omega), xu_r hr2, xu_s, Nat.add_zero]
        | succ i => rw [show k + (i + 1) = k + 1 + i by omega, j3 i (by omega), show p + (i + 1) = p + 1 + i by omega, xu_r (by decide), xu_r (by omega)]
      · rw [j4 j (by omega), xu_r hr2, xu_c (by omega)]
      · rw [j5 b i hb hi, xu_off (by omega), xu_r hb]
def crL : List (Nat × Nat) → (Nat → Nat → Int32) → Option (Nat → Nat → Int32)
  | [], I => some I
  | (r, z) :: l, I => Option.bind (mX12_carryRow I r z) (fun J => crL l J)
def totL : List (Nat × Nat) → Nat
  | [] => 0
  | (_, z) :: l => z + totL l
def mem3 : List (Nat × Nat) → Nat → Nat → Nat → Nat → Prop
  | [], _, _, _, _ => False
  | (r0, z0) :: l, p, r, z, q => (r = r0 ∧ z = z0 ∧ q = p) ∨ mem3 l (p + z0) r z q
theorem mem3_in : ∀ {l : List (Nat × Nat)} {p r z q : Nat}, mem3 l p r z q → (r, z) ∈ l ∧ p ≤ q ∧ q + z ≤ p + totL l
  | [], _, _, _, _, h => h.elim
  | (r0, z0) :: l, p, r, z, q, h => by
    rcases h with ⟨rfl, rfl, rfl⟩ | h
    · exact ⟨List.mem_cons_self, Nat.le_refl _, by rw [totL]; omega⟩
    · obtain ⟨h1, h2, h3⟩ := mem3_in h
      exact ⟨List.mem_cons_of_mem _ h1, by omega, by rw [totL]; omega⟩
theorem crL_save : ∀ (l : List (Nat × Nat)) (p : Nat) (I : Nat → Nat → Int32), (∀ e ∈ l, e.1 ≠ 170 ∧ e.1 ≠ 123 ∧ e.2 < 10000) → I 123 64 = nI 0 → I 123 63 = nI p → p + totL l ≤ 20500 → ∃ J, crL l I = some J ∧ J 123 63 = nI (p + totL l) ∧ (∀ r z q, mem3 l p r z q → ∀ i, i < z → J 170 (q + i) = I r i) ∧ (∀ j, j < p ∨ p + totL l ≤ j → J 170 j = I 170 j) ∧ ∀ b i, b ≠ 170 → b ≠ 123 ∨ i ≠ 63 → J b i = I b i
  | [], p, I, _, _, h4, _ => ⟨I, rfl, h4, fun _ _ _ h => h.elim, fun _ _ => rfl, fun _ _ _ _ => rfl⟩
  | (r0, z0) :: l, p, I, hl, h3, h4, h5 => by
    have h0 := hl (r0, z0) List.mem_cons_self
    rw [totL] at h5
    obtain ⟨J1, a1, a2, a3, a4, a5⟩ := crow0_go (r := r0) (z := z0) h0.1 h0.2.1 h0.2.2 xf z0 0 p I (by have := h0.2.2; unfold xf; omega) (by omega) h3 h4 (by omega)
    obtain ⟨J, b1, b2, b3, b4, b5⟩ := crL_save l (p + z0) J1 (fun e he => hl e (List.mem_cons_of_mem _ he)) ((a5 123 64 (by decide) (by decide)).trans h3) a2 (by omega)
    refine ⟨J, ?_, by rw [b2, totL, Nat.add_assoc], fun r z q hm i hi => ?_, fun j hj => ?_, fun b i h1 h2 => (b5 b i h1 h2).trans (a5 b i h1 h2)⟩
    · show Option.bind (mX12_carryRow_2 xf I r0 z0 (nI 0)) _ = _
      rw [a1, Option.bind_some, b1]
    · rcases hm with ⟨rfl, rfl, rfl⟩ | hm
      · rw [b4 _ (by omega), a3 i hi, Nat.zero_add]
      · have hin := mem3_in hm
        rw [b3 r z q hm i hi, a5 r i (hl (r, z) (List.mem_cons_of_mem _ hin.1)).1 (Or.inl (hl (r, z) (List.mem_cons_of_mem _ hin.1)).2.1)]
    · rw [totL] at hj
      rw [b4 j (by omega), a4 j (by omega)]
theorem crL_rest : ∀ (l : List (Nat × Nat)) (p : Nat) (I : Nat → Nat → Int32), (∀ e ∈ l, e.1 ≠ 170 ∧ e.1 ≠ 123 ∧ e.2 < 10000) → (l.map (·.1)).Nodup → I 123 64 = nI 1 → I 123 63 = nI p → p + totL l ≤ 20500 → ∃ J, crL l I = some J ∧ J 123 63 = nI (p + totL l) ∧ (∀ r z q, mem3 l p r z q → ∀ i, i < z → J r i = I 170 (q + i)) ∧ ∀ b i, b ≠ 123 ∨ i ≠ 63 → (∀ z, (b, z) ∈ l → z ≤ i) → J b i = I b i
  | [], p, I, _, _, _, h4, _ => ⟨I, rfl, h4, fun _ _ _ h => h.elim, fun _ _ _ _ => rfl⟩
  | (r0, z0) :: l, p, I, hl, hd, h3, h4, h5 => by
    have h0 := hl (r0, z0) List.mem_cons_self
    rw [totL] at h5
    rw [List.map_cons, List.nodup_cons] at hd
    have h0a := h0.1
    have h0b := h0.2.1
    have h0c := h0.2.2
    obtain ⟨J1, a1, a2, a3, a4, a5⟩ := crow1_go (r := r0) (z := z0) h0a h0b h0c xf z0 0 p I (by unfold xf; omega) (by omega) h3 h4 (by omega)
    obtain ⟨J, b1, b2, b3, b4⟩ := crL_rest l (p + z0) J1 (fun e he => hl e (List.mem_cons_of_mem _ he)) hd.2 ((a5 123 64 (fun e => h0b e.symm) (by decide)).trans h3) a2 (by omega)
    refine ⟨J, ?_, by rw [b2, totL, Nat.add_assoc], fun r z q hm i hi => ?_, fun b i h1 h2 => ?_⟩
    · show Option.bind (mX12_carryRow_2 xf I r0 z0 (nI 0)) _ = _
      rw [a1, Option.bind_some, b1]
    · rcases hm with ⟨rfl, rfl, rfl⟩ | hm
      · rw [b4 r i (Or.inl h0b) (fun z' hz' => absurd (List.mem_map_of_mem (f := (·.1)) hz') hd.1)]
        have := a3 i hi
        rwa [Nat.zero_add] at this
      · rw [b3 r z q hm i hi, a5 170 _ (fun e => h0a e.symm) (Or.inl (by decide))]
    · rw [b4 b i h1 (fun z hz => h2 z (List.mem_cons_of_mem _ hz))]
      by_cases w : b = r0
      · subst w
        have := h2 z0 List.mem_cons_self
        exact a4 i (Or.inr (by omega))
      · exact a5 b i w h1
def rows5 : List (Nat × Nat) := [(124, 13), (128, 4), (131, 16), (132, 80), (133, 80)]
theorem rows5_m {r i : Nat} (hr : r = 124 ∨ r = 128 ∨ r = 131 ∨ r = 132 ∨ r = 133) (p : Nat) (hi : i < lenR r) : mem3 rows5 p r (lenR r) (p + offR r) := by
  rcases hr with rfl | rfl | rfl | rfl | rfl
  · exact Or.inl ⟨rfl, rfl, rfl⟩
  · exact Or.inr (Or.inl ⟨rfl, rfl, rfl⟩)
  · exact Or.inr (Or.inr (Or.inl ⟨rfl, rfl, rfl⟩))
  · exact Or.inr (Or.inr (Or.inr (Or.inl ⟨rfl, rfl, rfl⟩)))
  · exact Or.inr (Or.inr (Or.inr (Or.inr (Or.inl ⟨rfl, rfl, rfl⟩))))
theorem rows5_ok : ∀ e ∈ rows5, e.1 ≠ 170 ∧ e.1 ≠ 123 ∧ e.2 < 10000 := by decide
theorem rows5_nd : (rows5.map (·.1)).Nodup := by decide
theorem rows5_tot : totL rows5 = 193 := rfl
theorem save4 (I : Nat → Nat → Int32) : ∃ J, mX12_carriesAll I (nI 4) (nI 0) = some J ∧ (∀ r i, r = 124 ∨ r = 128 ∨ r = 131 ∨ r = 132 ∨ r = 133 → i < lenR r → J 170 (16400 + offR r + i) = I r i) ∧ (∀ j, j < 16400 → J 170 j = I 170 j) ∧ ∀ b i, b ≠ 170 → b ≠ 123 ∨ (i ≠ 63 ∧ i ≠ 64) → J b i = I b i := by
  obtain ⟨J, j1, j2, j3, j4, j5⟩ := crL_save rows5 16400 (xu (xu I 123 63 (nI 16400)) 123 64 (nI 0)) rows5_ok xu_s (by rw [xu_c (by decide), xu_s]) (by rw [rows5_tot]; decide)
  have e : ∀ b i, b ≠ 170 → b ≠ 123 ∨ (i ≠ 63 ∧ i ≠ 64) → xu (xu I 123 63 (nI 16400)) 123 64 (nI 0) b i = I b i := fun b i _ h => by rw [xu_off (by omega), xu_off (by omega)]
  refine ⟨J, ?_, fun r i hr hi => ?_, fun j hj => ?_, fun b i h1 h2 => (j5 b i h1 (by omega)).trans (e b i h1 h2)⟩
  · unfold mX12_carriesAll
    rw [if_pos (show nI 0 = 0 ∨ nI 0 = 1 from Or.inl rfl), li4100, nMul, ← j1]
    rfl
  · rw [j3 r _ _ (rows5_m hr 16400 hi) i hi, e r i (by omega) (by omega)]
  · rw [j4 j (by omega), xu_r (by decide), xu_r (by decide)]
theorem rest4 (I : Nat → Nat → Int32) : ∃ J, mX12_carriesAll I (nI 4) (nI 1) = some J ∧ (∀ r i, r = 124 ∨ r = 128 ∨ r = 131 ∨ r = 132 ∨ r = 133 → i < lenR r → J r i = I 170 (16400 + offR r + i)) ∧ ∀ b i, b ≠ 124 → b ≠ 128 → b ≠ 131 → b ≠ 132 → b ≠ 133 → b ≠ 123 ∨ (i ≠ 63 ∧ i ≠ 64) → J b i = I b i := by
  obtain ⟨J, j1, j2, j3, j4⟩ := crL_rest rows5 16400 (xu (xu I 123 63 (nI 16400)) 123 64 (nI 1)) rows5_ok rows5_nd xu_s (by rw [xu_c (by decide), xu_s]) (by rw [rows5_tot]; decide)
  refine ⟨J, ?_, fun r i hr hi => ?_, fun b i q1 q2 q3 q4 q5 q6 => ?_⟩
  · unfold mX12_carriesAll
    rw [if_pos (show nI 1 = 0 ∨ nI 1 = 1 from Or.inr rfl), li4100, nMul, ← j1]
    rfl
  · rw [j3 r _ _ (rows5_m hr 16400 hi) i hi, xu_r (by decide), xu_r (by decide)]
  · rw [j4 b i (by omega) (fun z hz => by simp [rows5] at hz; omega), xu_off (by omega), xu_off (by omega)]

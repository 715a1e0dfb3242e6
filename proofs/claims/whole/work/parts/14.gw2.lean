/-! GW under the stores of references. -/
theorem gwP_obj : ∀ q ∈ gwP, (gwK.any (fun r => r.1 == q.1 && decide (r.2.1 < 20) && (q.2.1 != 0 || r.2.1 != 9))) = true := by decide +kernel
theorem gw_obj {K : Nat → Nat × Nat} {P : Nat → Nat → Nat} (G : GW K P) {q : Nat × Nat × Nat} (h : q ∈ gwP) : (K q.1).1 < 20 ∧ (q.2.1 = 0 → (K q.1).1 ≠ 9) := by
  have h1 := List.any_eq_true.mp (gwP_obj q h)
  obtain ⟨r, hr, h2⟩ := h1
  simp only [Bool.and_eq_true, Bool.or_eq_true, beq_iff_eq, decide_eq_true_eq, bne_iff_ne, ne_eq] at h2
  have h3 := G.1 r hr
  rw [← h2.1.1, h3]
  exact ⟨h2.1.2, fun z => h2.2.resolve_left (fun w => w z)⟩
theorem xu_off {α : Type} {f : Nat → Nat → α} {a k b j : Nat} {v : α} (h : b ≠ a ∨ j ≠ k) : xu f a k v b j = f b j := by
  unfold xu
  rw [if_neg]
  intro z
  rcases h with h | h
  · exact h z.1
  · exact h z.2
theorem gw_upd {K : Nat → Nat × Nat} {P : Nat → Nat → Nat} (G : GW K P) (a k v : Nat) (h : (K a = (9, 0) ∧ k = 0 ∧ K v = (6, 0)) ∨ (K a = (24, 20) ∧ K v = (5, 0)) ∨ (a = 11 ∧ (v = 0 ∨ K v = (2, 0))) ∨ (a = 91 ∧ (v = 0 ∨ K v = (9, 0)))) : GW K (xu P a k v) := by
  have hK11 := g_K11 G
  have hK91 := g_K91 G
  have hK103 := g_K103 G
  have hK110 := g_K110 G
  have htag : ((K a).1 = 9 ∧ k = 0) ∨ 24 ≤ (K a).1 ∧ (K a).1 < 27 := by
    rcases h with ⟨h1, h2, -⟩ | ⟨h1, -⟩ | ⟨h1, -⟩ | ⟨h1, -⟩
    · exact Or.inl ⟨by rw [h1], h2⟩
    · exact Or.inr (by rw [h1]; decide)
    · exact Or.inr (by rw [h1, hK11]; decide)
    · exact Or.inr (by rw [h1, hK91]; decide)
  have off : ∀ (b j : Nat) (t : Nat × Nat), K b = t → t.1 < 20 → t.1 ≠ 9 ∨ j ≠ 0 → xu P a k v b j = P b j := by
    intro b j t hb ht hj
    refine xu_off ?_
    by_cases e : b = a
    · subst e
      rw [hb] at htag
      rcases htag with ⟨h1, h2⟩ | h1
      · rcases hj with h3 | h3
        · exact absurd h1 h3
        · exact Or.inr (by rw [h2]; exact h3)
      · omega
    · exact Or.inl e
  have offA : ∀ (b j : Nat) (t : Nat × Nat), K b = t → 27 ≤ t.1 → xu P a k v b j = P b j := by
    intro b j t hb ht
    refine xu_off (Or.inl fun e => ?_)
    subst e
    rw [hb] at htag
    omega
  obtain ⟨g1, g2, g3, g4, g5, g6, g7, g8, g9, g10, g11⟩ := G
  refine ⟨g1, fun q hq => ?_, fun b hb => ?_, fun b hb => ?_, fun b hb => ?_, fun b hb => ?_, fun b hb => ?_, fun j hj => ?_, fun j hj => ?_, fun j hj => ?_, fun j hj => ?_⟩
  · have ho := gw_obj ⟨g1, g2, g3, g4, g5, g6, g7, g8, g9, g10, g11⟩ hq
    rw [off q.1 q.2.1 _ rfl ho.1 ?_]
    · exact g2 q hq
    · by_cases z : q.2.1 = 0
      · exact Or.inl (ho.2 z)
      · exact Or.inr z
  · have hh := g3 b hb
    unfold gLState at hh ⊢
    simp only [fun j => off b j _ hb (by decide) (Or.inl (by decide))]
    exact hh
  · have hh := g4 b hb
    unfold gLStreet at hh ⊢
    simp only [fun j => off b j _ hb (by decide) (Or.inl (by decide))]
    exact hh
  · have hh := g5 b hb
    unfold gLWorld at hh ⊢
    obtain ⟨w1, w2, w3, w4, w5, w6, w7, w8, w9, w10, w11, w12⟩ := hh
    rw [off b 1 _ hb (by decide) (Or.inr (by decide)), off b 2 _ hb (by decide) (Or.inr (by decide)), off b 4 _ hb (by decide) (Or.inr (by decide)), off b 5 _ hb (by decide) (Or.inr (by decide)), off b 6 _ hb (by decide) (Or.inr (by decide))]
    refine ⟨w1, w2, w3, w4, w5, w6, w7, w8, w9, w10, ?_, fun j hj => ?_⟩
    · by_cases e : b = a ∧ 0 = k
      · have : xu P a k v b 0 = v := by unfold xu; rw [if_pos e]
        rw [this]
        obtain ⟨e1, e2⟩ := e
        subst e1
        rcases h with ⟨-, -, h3⟩ | ⟨h1, -⟩ | ⟨h1, -⟩ | ⟨h1, -⟩
        · exact h3
        · rw [hb] at h1; cases h1
        · rw [h1, hK11] at hb; cases hb
        · rw [h1, hK91] at hb; cases hb
      · have : xu P a k v b 0 = P b 0 := by unfold xu; rw [if_neg e]
        rw [this]; exact w11
    · by_cases e : b + 15 = a ∧ j = k
      · have : xu P a k v (b + 15) j = v := by unfold xu; rw [if_pos e]
        rw [this]
        obtain ⟨e1, e2⟩ := e
        rw [e1] at w4
        rcases h with ⟨h1, -, -⟩ | ⟨-, h1⟩ | ⟨h1, -⟩ | ⟨h1, -⟩
        · rw [w4] at h1; cases h1
        · exact h1
        · rw [h1, hK11] at w4; cases w4
        · rw [h1, hK91] at w4; cases w4
      · have : xu P a k v (b + 15) j = P (b + 15) j := by unfold xu; rw [if_neg e]
        rw [this]; exact w12 j hj
  · have hh := g6 b hb
    unfold gLReader at hh ⊢
    simp only [fun j => off b j _ hb (by decide) (Or.inl (by decide))]
    exact hh
  · have hh := g7 b hb
    unfold gLRule at hh ⊢
    simp only [fun j => off b j _ hb (by decide) (Or.inl (by decide))]
    exact hh
  · by_cases e : 11 = a ∧ j = k
    · have : xu P a k v 11 j = v := by unfold xu; rw [if_pos e]
      rw [this]
      obtain ⟨e1, e2⟩ := e
      subst e1
      rcases h with ⟨h1, -, -⟩ | ⟨h1, -⟩ | ⟨-, h1⟩ | ⟨h1, -⟩
      · rw [hK11] at h1; cases h1
      · rw [hK11] at h1; cases h1
      · exact h1
      · cases h1
    · have : xu P a k v 11 j = P 11 j := by unfold xu; rw [if_neg e]
      rw [this]; exact g8 j hj
  · by_cases e : 91 = a ∧ j = k
    · have : xu P a k v 91 j = v := by unfold xu; rw [if_pos e]
      rw [this]
      obtain ⟨e1, e2⟩ := e
      subst e1
      rcases h with ⟨h1, -, -⟩ | ⟨h1, -⟩ | ⟨h1, -⟩ | ⟨-, h1⟩
      · rw [hK91] at h1; cases h1
      · rw [hK91] at h1; cases h1
      · cases h1
      · exact h1
    · have : xu P a k v 91 j = P 91 j := by unfold xu; rw [if_neg e]
      rw [this]; exact g9 j hj
  · rw [offA 103 j _ hK103 (by decide)]; exact g10 j hj
  · rw [offA 110 j _ hK110 (by decide)]; exact g11 j hj

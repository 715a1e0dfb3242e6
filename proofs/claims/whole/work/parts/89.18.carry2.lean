/-! image, back: the reference's rows carried. -/
def crLf : List (Nat × Nat) → (Nat → Nat → Int32) → ((Nat → Nat → Int32) → Option (Nat → Nat → Int32)) → Option (Nat → Nat → Int32)
  | [], I, f => f I
  | (r, z) :: l, I, f => Option.bind (mX12_carryRow I r z) (fun J => crLf l J f)
theorem crLf_eq : ∀ (l : List (Nat × Nat)) (I : Nat → Nat → Int32) (f : (Nat → Nat → Int32) → Option (Nat → Nat → Int32)), crLf l I f = Option.bind (crL l I) f
  | [], _, _ => rfl
  | (r, z) :: l, I, f => by
    rw [crLf, crL]
    cases mX12_carryRow I r z with
    | none => rfl
    | some J => exact crLf_eq l J f
def rows13 : List (Nat × Nat) := [(125, 5), (126, 4), (127, 4), (129, 5), (130, 5), (134, 10), (135, 10), (136, 10), (137, 16), (138, 80), (139, 4), (140, 1), (162, 3640)]
theorem rows13_ok : ∀ e ∈ rows13, e.1 ≠ 170 ∧ e.1 ≠ 123 ∧ e.2 < 10000 := by decide
theorem rows13_nd : (rows13.map (·.1)).Nodup := by decide
theorem rows13_tot : totL rows13 = 3794 := rfl
def r13 (r : Nat) : Prop := r = 125 ∨ r = 126 ∨ r = 127 ∨ r = 129 ∨ r = 130 ∨ r = 134 ∨ r = 135 ∨ r = 136 ∨ r = 137 ∨ r = 138 ∨ r = 139 ∨ r = 140 ∨ r = 162
theorem rows13_m {r : Nat} (hr : r13 r) (p : Nat) : mem3 rows13 (p + 194) r (lenR r) (p + offR r) := by
  unfold r13 at hr
  rcases hr with rfl | rfl | rfl | rfl | rfl | rfl | rfl | rfl | rfl | rfl | rfl | rfl | rfl
  · exact Or.inl ⟨rfl, rfl, rfl⟩
  · exact Or.inr (Or.inl ⟨rfl, rfl, rfl⟩)
  · exact Or.inr (Or.inr (Or.inl ⟨rfl, rfl, rfl⟩))
  · exact Or.inr (Or.inr (Or.inr (Or.inl ⟨rfl, rfl, rfl⟩)))
  · exact Or.inr (Or.inr (Or.inr (Or.inr (Or.inl ⟨rfl, rfl, rfl⟩))))
  · exact Or.inr (Or.inr (Or.inr (Or.inr (Or.inr (Or.inl ⟨rfl, rfl, rfl⟩)))))
  · exact Or.inr (Or.inr (Or.inr (Or.inr (Or.inr (Or.inr (Or.inl ⟨rfl, rfl, rfl⟩))))))
  · exact Or.inr (Or.inr (Or.inr (Or.inr (Or.inr (Or.inr (Or.inr (Or.inl ⟨rfl, rfl, rfl⟩)))))))
  · exact Or.inr (Or.inr (Or.inr (Or.inr (Or.inr (Or.inr (Or.inr (Or.inr (Or.inl ⟨rfl, rfl, rfl⟩))))))))
  · exact Or.inr (Or.inr (Or.inr (Or.inr (Or.inr (Or.inr (Or.inr (Or.inr (Or.inr (Or.inl ⟨rfl, rfl, rfl⟩)))))))))
  · exact Or.inr (Or.inr (Or.inr (Or.inr (Or.inr (Or.inr (Or.inr (Or.inr (Or.inr (Or.inr (Or.inl ⟨rfl, rfl, rfl⟩))))))))))
  · exact Or.inr (Or.inr (Or.inr (Or.inr (Or.inr (Or.inr (Or.inr (Or.inr (Or.inr (Or.inr (Or.inr (Or.inl ⟨rfl, rfl, rfl⟩)))))))))))
  · exact Or.inr (Or.inr (Or.inr (Or.inr (Or.inr (Or.inr (Or.inr (Or.inr (Or.inr (Or.inr (Or.inr (Or.inr (Or.inl ⟨rfl, rfl, rfl⟩))))))))))))
theorem lenR_rows {r i : Nat} (h : i < lenR r) : (r = 124 ∨ r = 128 ∨ r = 131 ∨ r = 132 ∨ r = 133) ∨ r13 r := by
  unfold r13
  unfold lenR at h
  split at h <;> omega
theorem caAll_eq {I : Nat → Nat → Int32} {k m : Nat} (hk : k < 4) (hm : m = 0 ∨ m = 1) : mX12_carriesAll I (nI k) (nI m) = crLf rows5 (xu (xu I 123 63 (nI (4100 * k))) 123 64 (nI m)) (fun q9 => crLf [(163, 1)] (xu q9 163 0 (q9 123 51)) (fun q12 => crLf rows13 (xu q12 123 51 (q12 163 0)) some)) := by
  unfold mX12_carriesAll
  rw [if_pos (show nI m = 0 ∨ nI m = 1 by rcases hm with rfl | rfl; exact Or.inl rfl; exact Or.inr rfl), li4100, nMul]
  have e4 : ¬ nI k = (4 : Int32) := fun y => absurd ((nEq (b := 4) (by omega) (by omega)).mp y) (by omega)
  simp only [if_neg e4]
  rfl
/-- now into image k -/
theorem saveK {k : Nat} (hk : k < 4) (I : Nat → Nat → Int32) : ∃ J, mX12_carriesAll I (nI k) (nI 0) = some J ∧ (∀ r i, i < lenR r → J 170 (4100 * k + offR r + i) = I r i) ∧ J 170 (4100 * k + 193) = I 123 51 ∧ (∀ j, j < 4100 * k ∨ 4100 * k + 3988 ≤ j → J 170 j = I 170 j) ∧ ∀ b i, b ≠ 170 → b ≠ 163 → b ≠ 123 ∨ (i ≠ 63 ∧ i ≠ 64) → J b i = I b i := by
  have e0 : ∀ b i, b ≠ 123 ∨ (i ≠ 63 ∧ i ≠ 64) → xu (xu I 123 63 (nI (4100 * k))) 123 64 (nI 0) b i = I b i := fun b i h => by rw [xu_off (by omega), xu_off (by omega)]
  obtain ⟨J1, a1, a2, a3, a4, a5⟩ := crL_save rows5 (4100 * k) (xu (xu I 123 63 (nI (4100 * k))) 123 64 (nI 0)) rows5_ok xu_s (by rw [xu_c (by decide), xu_s]) (by rw [rows5_tot]; omega)
  rw [rows5_tot] at a2 a4
  obtain ⟨J2, b1, b2, b3, b4, b5⟩ := crL_save [(163, 1)] (4100 * k + 193) (xu J1 163 0 (J1 123 51)) (by decide) (by rw [xu_r (by decide), a5 123 64 (by decide) (by decide), xu_s]) (by rw [xu_r (by decide), a2]) (by show _ + 1 ≤ _; omega)
  change J2 123 63 = nI (4100 * k + 193 + 1) at b2
  have b3' := b3 163 1 (4100 * k + 193) (Or.inl ⟨rfl, rfl, rfl⟩) 0 (by decide)
  change ∀ j, j < 4100 * k + 193 ∨ 4100 * k + 193 + 1 ≤ j → _ at b4
  have e51 : J1 123 51 = I 123 51 := by rw [a5 123 51 (by decide) (by decide), e0 123 51 (by decide)]
  have e2 : J2 163 0 = I 123 51 := by rw [b5 163 0 (by decide) (by decide), xu_s, e51]
  obtain ⟨J, c1, c2, c3, c4, c5⟩ := crL_save rows13 (4100 * k + 194) (xu J2 123 51 (J2 163 0)) rows13_ok (by rw [xu_c (by decide), b5 123 64 (by decide) (by decide), xu_r (by decide), a5 123 64 (by decide) (by decide), xu_s]) (by rw [xu_c (by decide), b2]) (by rw [rows13_tot]; omega)
  rw [rows13_tot] at c4
  have f2 : ∀ b i, b ≠ 170 → b ≠ 163 → b ≠ 123 ∨ i ≠ 63 → J2 b i = xu (xu I 123 63 (nI (4100 * k))) 123 64 (nI 0) b i := fun b i h1 h2 h3 => by rw [b5 b i h1 h3, xu_r h2, a5 b i h1 h3]
  have f3 : ∀ b i, b ≠ 170 → b ≠ 163 → b ≠ 123 ∨ (i ≠ 63 ∧ i ≠ 64) → xu J2 123 51 (J2 163 0) b i = I b i := fun b i h1 h2 h3 => by
    by_cases w : b = 123 ∧ i = 51
    · rw [w.1, w.2, xu_s, e2]
    · rw [xu_off (by omega), f2 b i h1 h2 (by omega), e0 b i h3]
  refine ⟨J, ?_, fun r i hi => ?_, ?_, fun j hj => ?_, fun b i h1 h2 h3 => ?_⟩
  · rw [caAll_eq hk (Or.inl rfl), crLf_eq, a1, Option.bind_some, crLf_eq, b1, Option.bind_some, crLf_eq, c1, Option.bind_some]
  · rcases lenR_rows hi with hr | hr
    · have m := rows5_m hr (4100 * k) hi
      have hq := (mem3_in m).2
      rw [rows5_tot] at hq
      rw [c4 _ (by omega), xu_r (by decide), b4 _ (by omega), xu_r (by decide), a3 r _ _ m i hi, e0 r i (by omega)]
    · rw [c3 r _ _ (rows13_m hr (4100 * k)) i hi]
      unfold r13 at hr
      exact f3 r i (by omega) (by omega) (by omega)
  · rw [c4 _ (by omega), xu_r (by decide)]
    rw [Nat.add_zero] at b3'
    rw [b3', xu_s, e51]
  · rw [c4 j (by omega), xu_r (by decide), b4 j (by omega), xu_r (by decide), a4 j (by omega), e0 170 j (by omega)]
  · rw [c5 b i h1 (by omega), f3 b i h1 h2 h3]
/-- image k into now -/
theorem restK {k : Nat} (hk : k < 4) (I : Nat → Nat → Int32) : ∃ J, mX12_carriesAll I (nI k) (nI 1) = some J ∧ (∀ r i, i < lenR r → J r i = I 170 (4100 * k + offR r + i)) ∧ J 123 51 = I 170 (4100 * k + 193) ∧ ∀ b i, lenR b ≤ i → b ≠ 163 → b ≠ 123 ∨ (i ≠ 63 ∧ i ≠ 64 ∧ i ≠ 51) → J b i = I b i := by
  have e0 : ∀ b i, b ≠ 123 ∨ (i ≠ 63 ∧ i ≠ 64) → xu (xu I 123 63 (nI (4100 * k))) 123 64 (nI 1) b i = I b i := fun b i h => by rw [xu_off (by omega), xu_off (by omega)]
  have z5 : ∀ b i, lenR b ≤ i → ∀ z, (b, z) ∈ rows5 → z ≤ i := fun b i h z hz => by
    simp [rows5] at hz
    rcases hz with ⟨rfl, rfl⟩ | ⟨rfl, rfl⟩ | ⟨rfl, rfl⟩ | ⟨rfl, rfl⟩ | ⟨rfl, rfl⟩ <;> exact h
  have z13 : ∀ b i, lenR b ≤ i → ∀ z, (b, z) ∈ rows13 → z ≤ i := fun b i h z hz => by
    simp [rows13] at hz
    rcases hz with ⟨rfl, rfl⟩ | ⟨rfl, rfl⟩ | ⟨rfl, rfl⟩ | ⟨rfl, rfl⟩ | ⟨rfl, rfl⟩ | ⟨rfl, rfl⟩ | ⟨rfl, rfl⟩ | ⟨rfl, rfl⟩ | ⟨rfl, rfl⟩ | ⟨rfl, rfl⟩ | ⟨rfl, rfl⟩ | ⟨rfl, rfl⟩ | ⟨rfl, rfl⟩ <;> exact h
  obtain ⟨J1, a1, a2, a3, a4⟩ := crL_rest rows5 (4100 * k) (xu (xu I 123 63 (nI (4100 * k))) 123 64 (nI 1)) rows5_ok rows5_nd xu_s (by rw [xu_c (by decide), xu_s]) (by rw [rows5_tot]; omega)
  rw [rows5_tot] at a2
  have g1 : ∀ b i, lenR b ≤ i → b ≠ 123 ∨ i ≠ 63 → J1 b i = xu (xu I 123 63 (nI (4100 * k))) 123 64 (nI 1) b i := fun b i h1 h2 => a4 b i h2 (z5 b i h1)
  obtain ⟨J2, b1, b2, b3, b4⟩ := crL_rest [(163, 1)] (4100 * k + 193) (xu J1 163 0 (J1 123 51)) (by decide) (by decide) (by rw [xu_r (by decide), g1 123 64 (Nat.zero_le _) (by decide), xu_s]) (by rw [xu_r (by decide), a2]) (by show _ + 1 ≤ _; omega)
  change J2 123 63 = nI (4100 * k + 193 + 1) at b2
  have b3' := b3 163 1 (4100 * k + 193) (Or.inl ⟨rfl, rfl, rfl⟩) 0 (by decide)
  rw [Nat.add_zero, xu_r (by decide), g1 170 _ (Nat.zero_le _) (by omega), e0 170 _ (by omega)] at b3'
  have g2 : ∀ b i, b ≠ 163 → b ≠ 123 ∨ i ≠ 63 → J2 b i = J1 b i := fun b i h1 h2 => by rw [b4 b i h2 (fun z hz => by simp at hz; omega), xu_r h1]
  obtain ⟨J, c1, c2, c3, c4⟩ := crL_rest rows13 (4100 * k + 194) (xu J2 123 51 (J2 163 0)) rows13_ok rows13_nd (by rw [xu_c (by decide), g2 123 64 (by decide) (by decide), g1 123 64 (Nat.zero_le _) (by decide), xu_s]) (by rw [xu_c (by decide), b2]) (by rw [rows13_tot]; omega)
  have g3 : ∀ b i, b ≠ 163 → b ≠ 123 ∨ (i ≠ 63 ∧ i ≠ 51) → xu J2 123 51 (J2 163 0) b i = J1 b i := fun b i h1 h2 => by rw [xu_off (by omega), g2 b i h1 (by omega)]
  refine ⟨J, ?_, fun r i hi => ?_, ?_, fun b i h1 h2 h3 => ?_⟩
  · rw [caAll_eq hk (Or.inr rfl), crLf_eq, a1, Option.bind_some, crLf_eq, b1, Option.bind_some, crLf_eq, c1, Option.bind_some]
  · rcases lenR_rows hi with hr | hr
    · rw [c4 r i (by omega) (fun z hz => by simp [rows13] at hz; omega), g3 r i (by omega) (by omega), a3 r _ _ (rows5_m hr (4100 * k) hi) i hi, e0 170 _ (by omega)]
    · rw [c3 r _ _ (rows13_m hr (4100 * k)) i hi, g3 170 _ (by decide) (by omega), g1 170 _ (Nat.zero_le _) (by omega), e0 170 _ (by omega)]
  · rw [c4 123 51 (by decide) (z13 123 51 (Nat.zero_le _)), xu_s, b3']
  · rw [c4 b i (by omega) (z13 b i h1), g3 b i h2 (by omega), g1 b i h1 (by omega), e0 b i (by omega)]

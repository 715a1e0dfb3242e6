/-! Readers and worlds that come: the shape goes on. -/
theorem new7_at {h : xH} : (xnew h (6, 0)).2.1 (h.1 + 1) = (6, 0) := xnew_N h _
def hRd (h : xH) : xH := iX8 (xnew h (7, 0)) (h.1 + 1) 3
theorem hRd_1 (h : xH) : (hRd h).1 = h.1 + 12 := by rw [hRd, iX8_1, xnew_1]
theorem hRd_K {h : xH} {b : Nat} (hb : b ≤ h.1) : (hRd h).2.1 b = h.2.1 b := by
  rw [hRd, iX8_K (by rw [xnew_1]; omega), xnew_K hb]
theorem hRd_P {h : xH} {b : Nat} (hb : b ≤ h.1) : (hRd h).2.2.1 b = h.2.2.1 b := by
  show (pP (pP (iX7 (xnew (xnew h (7, 0)) (6, 0)) (h.1 + 2)) (h.1 + 1) 1 (h.1 + 2)) (h.1 + 1) 0 3).2.2.1 b = _
  show xu (xu (iX7 (xnew (xnew h (7, 0)) (6, 0)) (h.1 + 2)).2.2.1 (h.1 + 1) 1 (h.1 + 2)) (h.1 + 1) 0 3 b = _
  rw [xu_ne (by omega), xu_ne (by omega), iX7_P (by omega) (by simp only [xnew_1]; omega)]
  show xz (xz h.2.2.1 (h.1 + 1) 0) (h.1 + 1 + 1) 0 b = _
  rw [xz_ne (by omega), xz_ne (by omega)]
theorem hRd_at (h : xH) : (hRd h).2.1 (h.1 + 1) = (7, 0) ∧ (hRd h).2.1 (h.1 + 2) = (6, 0) ∧ (hRd h).2.1 (h.1 + 3) = (20, 4) ∧ (hRd h).2.1 (h.1 + 4) = (20, 4) ∧ (hRd h).2.1 (h.1 + 5) = (20, 4) ∧ (hRd h).2.1 (h.1 + 6) = (20, 16) ∧ (hRd h).2.1 (h.1 + 7) = (20, 4) ∧ (hRd h).2.1 (h.1 + 8) = (20, 5) ∧ (hRd h).2.1 (h.1 + 9) = (20, 5) ∧ (hRd h).2.1 (h.1 + 10) = (5, 0) ∧ (hRd h).2.1 (h.1 + 11) = (21, 16) ∧ (hRd h).2.1 (h.1 + 12) = (20, 4) := by
  have hs : (xnew (xnew h (7, 0)) (6, 0)).1 = h.1 + 2 := rfl
  have e := (iX7_at (h := xnew (xnew h (7, 0)) (6, 0)) (a := h.1 + 2) (by rw [hs]; exact Nat.le_refl _)).1
  rw [hs] at e
  have k1 : (hRd h).2.1 = (iX7 (xnew (xnew h (7, 0)) (6, 0)) (h.1 + 2)).2.1 := rfl
  rw [k1]
  obtain ⟨e1, e2, e3, e4, e5, e6, e7, e8, e9, e10⟩ := e
  refine ⟨?_, ?_, e1, e2, e3, e4, e5, e6, e7, e8, e9, e10⟩
  · rw [iX7_K (by rw [hs]; omega), xnew_K (by rw [xnew_1]; exact Nat.le_refl _)]
    exact xnew_N h _
  · rw [iX7_K (by rw [hs]; exact Nat.le_refl _)]
    exact xnew_N (xnew h (7, 0)) _
theorem hRd_Pat (h : xH) : (hRd h).2.2.1 (h.1 + 1) 0 = 3 ∧ (hRd h).2.2.1 (h.1 + 1) 1 = h.1 + 2 ∧ ((hRd h).2.2.1 (h.1 + 2) 9 = h.1 + 3 ∧ (hRd h).2.2.1 (h.1 + 2) 10 = h.1 + 4 ∧ (hRd h).2.2.1 (h.1 + 2) 11 = h.1 + 5 ∧ (hRd h).2.2.1 (h.1 + 2) 12 = h.1 + 6 ∧ (hRd h).2.2.1 (h.1 + 2) 13 = h.1 + 7 ∧ (hRd h).2.2.1 (h.1 + 2) 14 = h.1 + 8 ∧ (hRd h).2.2.1 (h.1 + 2) 15 = h.1 + 9 ∧ (hRd h).2.2.1 (h.1 + 2) 16 = h.1 + 10) ∧ (hRd h).2.2.1 (h.1 + 10) 0 = h.1 + 11 ∧ (hRd h).2.2.1 (h.1 + 10) 1 = h.1 + 12 := by
  have hs : (xnew (xnew h (7, 0)) (6, 0)).1 = h.1 + 2 := rfl
  have e := (iX7_at (h := xnew (xnew h (7, 0)) (6, 0)) (a := h.1 + 2) (by rw [hs]; exact Nat.le_refl _)).2
  rw [hs] at e
  have k1 : (hRd h).2.2.1 = xu (xu (iX7 (xnew (xnew h (7, 0)) (6, 0)) (h.1 + 2)).2.2.1 (h.1 + 1) 1 (h.1 + 2)) (h.1 + 1) 0 3 := rfl
  have k2 : ∀ b, b ≠ h.1 + 1 → (hRd h).2.2.1 b = (iX7 (xnew (xnew h (7, 0)) (6, 0)) (h.1 + 2)).2.2.1 b := fun b hb => by
    rw [k1, xu_ne hb, xu_ne hb]
  obtain ⟨e1, e2, e3, e4, e5, e6, e7, e8, e9, e10⟩ := e
  rw [k2 (h.1 + 2) (by omega), k2 (h.1 + 10) (by omega)]
  refine ⟨?_, ?_, ⟨e1, e2, e3, e4, e5, e6, e7, e8⟩, e9, e10⟩
  · rw [k1]; simp [xu]
  · rw [k1]; simp [xu]
theorem Fr_rd {h : xH} (F : Fr h) : Fr (hRd h) := Fr_8 (Fr_new F _) _ _
theorem gw_rd {h : xH} (G : GW h.2.1 h.2.2.1) (F : Fr h) : GW (hRd h).2.1 (hRd h).2.2.1 := by
  obtain ⟨k1, k2, k3, k4, k5, k6, k7, k8, k9, k10, k11, k12⟩ := hRd_at h
  obtain ⟨p1, p2, ⟨p3, p4, p5, p6, p7, p8, p9, p10⟩, p11, p12⟩ := hRd_Pat h
  have cs : ∀ a t, h.1 < a → (hRd h).2.1 a = t → t.1 < 30 → a = h.1 + 1 ∨ a = h.1 + 2 ∨ a = h.1 + 3 ∨ a = h.1 + 4 ∨ a = h.1 + 5 ∨ a = h.1 + 6 ∨ a = h.1 + 7 ∨ a = h.1 + 8 ∨ a = h.1 + 9 ∨ a = h.1 + 10 ∨ a = h.1 + 11 ∨ a = h.1 + 12 := by
    intro a t h1 h2 h3
    have := Fr_le (Fr_rd F) h2 h3
    rw [hRd_1] at this
    omega
  refine gw_ext G F (fun b hb => hRd_K hb) (fun b hb => hRd_P hb) (fun a h1 h2 => ?_) (fun a h1 h2 => ?_) (fun a h1 h2 => ?_) (fun a h1 h2 => ?_) (fun a h1 h2 => ?_)
  · rcases cs a _ h1 h2 (by decide) with rfl | rfl | rfl | rfl | rfl | rfl | rfl | rfl | rfl | rfl | rfl | rfl
    case inr.inr.inr.inr.inr.inr.inr.inr.inr.inl => exact ⟨p11, k11, p12, k12⟩
    all_goals first | (rw [k1] at h2; cases h2) | (rw [k2] at h2; cases h2) | (rw [k3] at h2; cases h2) | (rw [k4] at h2; cases h2) | (rw [k5] at h2; cases h2) | (rw [k6] at h2; cases h2) | (rw [k7] at h2; cases h2) | (rw [k8] at h2; cases h2) | (rw [k9] at h2; cases h2) | (rw [k11] at h2; cases h2) | (rw [k12] at h2; cases h2)
  · rcases cs a _ h1 h2 (by decide) with rfl | rfl | rfl | rfl | rfl | rfl | rfl | rfl | rfl | rfl | rfl | rfl
    case inr.inl => exact ⟨p3, k3, p4, k4, p5, k5, p6, k6, p7, k7, p8, k8, p9, k9, p10, k10⟩
    all_goals first | (rw [k1] at h2; cases h2) | (rw [k3] at h2; cases h2) | (rw [k4] at h2; cases h2) | (rw [k5] at h2; cases h2) | (rw [k6] at h2; cases h2) | (rw [k7] at h2; cases h2) | (rw [k8] at h2; cases h2) | (rw [k9] at h2; cases h2) | (rw [k10] at h2; cases h2) | (rw [k11] at h2; cases h2) | (rw [k12] at h2; cases h2)
  · rcases cs a _ h1 h2 (by decide) with rfl | rfl | rfl | rfl | rfl | rfl | rfl | rfl | rfl | rfl | rfl | rfl
    all_goals first | (rw [k1] at h2; cases h2) | (rw [k2] at h2; cases h2) | (rw [k3] at h2; cases h2) | (rw [k4] at h2; cases h2) | (rw [k5] at h2; cases h2) | (rw [k6] at h2; cases h2) | (rw [k7] at h2; cases h2) | (rw [k8] at h2; cases h2) | (rw [k9] at h2; cases h2) | (rw [k10] at h2; cases h2) | (rw [k11] at h2; cases h2) | (rw [k12] at h2; cases h2)
  · rcases cs a _ h1 h2 (by decide) with rfl | rfl | rfl | rfl | rfl | rfl | rfl | rfl | rfl | rfl | rfl | rfl
    case inl => exact ⟨p1, p2, k2⟩
    all_goals first | (rw [k2] at h2; cases h2) | (rw [k3] at h2; cases h2) | (rw [k4] at h2; cases h2) | (rw [k5] at h2; cases h2) | (rw [k6] at h2; cases h2) | (rw [k7] at h2; cases h2) | (rw [k8] at h2; cases h2) | (rw [k9] at h2; cases h2) | (rw [k10] at h2; cases h2) | (rw [k11] at h2; cases h2) | (rw [k12] at h2; cases h2)
  · rcases cs a _ h1 h2 (by decide) with rfl | rfl | rfl | rfl | rfl | rfl | rfl | rfl | rfl | rfl | rfl | rfl
    all_goals first | (rw [k1] at h2; cases h2) | (rw [k2] at h2; cases h2) | (rw [k3] at h2; cases h2) | (rw [k4] at h2; cases h2) | (rw [k5] at h2; cases h2) | (rw [k6] at h2; cases h2) | (rw [k7] at h2; cases h2) | (rw [k8] at h2; cases h2) | (rw [k9] at h2; cases h2) | (rw [k10] at h2; cases h2) | (rw [k11] at h2; cases h2) | (rw [k12] at h2; cases h2)

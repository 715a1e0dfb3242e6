theorem wloop_at {kp : Nat} : ∀ (m : Nat) {h : xH}, kp ≤ h.1 → ∀ j, j < m → (wloop kp m h).2.1 (h.1 + 3 * j + 1) = (5, 0) ∧ (wloop kp m h).2.1 (h.1 + 3 * j + 2) = (21, 16) ∧ (wloop kp m h).2.1 (h.1 + 3 * j + 3) = (20, 4) ∧ (wloop kp m h).2.2.1 (h.1 + 3 * j + 1) 0 = h.1 + 3 * j + 2 ∧ (wloop kp m h).2.2.1 (h.1 + 3 * j + 1) 1 = h.1 + 3 * j + 3 ∧ (wloop kp m h).2.2.1 kp j = h.1 + 3 * j + 1
  | 0, h, _, j, hj => absurd hj (Nat.not_lt_zero j)
  | m + 1, h, hk, j, hj => by
    have e1 := wloop_1 kp m h
    generalize hw : wloop kp m h = w at e1
    have hs : (xnew w (5, 0)).1 = w.1 + 1 := rfl
    have kK : (wloop kp (m + 1) h).2.1 = (iX6 (xnew w (5, 0)) (w.1 + 1)).2.1 := by rw [wloop, hw]; rfl
    have kP : (wloop kp (m + 1) h).2.2.1 = xu (iX6 (xnew w (5, 0)) (w.1 + 1)).2.2.1 kp m (w.1 + 1) := by rw [wloop, hw]; rfl
    rw [kK, kP]
    by_cases e : j = m
    · subst e
      have at6 := iX6_at (h := xnew w (5, 0)) (a := w.1 + 1) (Nat.le_refl _)
      rw [hs] at at6
      have c1 : h.1 + 3 * j + 1 = w.1 + 1 := by omega
      have c2 : h.1 + 3 * j + 2 = w.1 + 1 + 1 := by omega
      have c3 : h.1 + 3 * j + 3 = w.1 + 1 + 2 := by omega
      rw [c1, c2, c3, xu_ne (by omega)]
      refine ⟨?_, at6.1, at6.2.1, at6.2.2.1, at6.2.2.2, ?_⟩
      · rw [iX6_K (by rw [hs]; exact Nat.le_refl _)]; exact xnew_N w _
      · rw [xu_at, if_pos rfl]
    · have ih := wloop_at m hk j (by omega)
      rw [hw] at ih
      have l3 : h.1 + 3 * j + 3 ≤ w.1 := by omega
      rw [iX6_K (by rw [hs]; omega), iX6_K (by rw [hs]; omega), iX6_K (by rw [hs]; omega), xnew_K (by omega), xnew_K (by omega), xnew_K (by omega), xu_ne (by omega), xu_at, if_neg e, iX6_P (by omega) (by rw [hs]; omega), iX6_P (by omega) (by rw [hs]; omega), iX6_P (by omega) (by rw [hs]; omega)]
      show _ ∧ _ ∧ _ ∧ xz w.2.2.1 (w.1 + 1) 0 (h.1 + 3 * j + 1) 0 = _ ∧ xz w.2.2.1 (w.1 + 1) 0 (h.1 + 3 * j + 1) 1 = _ ∧ xz w.2.2.1 (w.1 + 1) 0 kp j = _
      rw [xz_ne (by omega), xz_ne (by omega)]
      exact ih
def hWd (h : xH) : xH := iX10 (xnew h (9, 0)) (h.1 + 1)
def hWa (h : xH) : xH := iX10a (xnew h (9, 0)) (h.1 + 1)
theorem hWd_eq (h : xH) : hWd h = wloop (h.1 + 16) 20 (hWa h) := rfl
theorem hWa_1 (h : xH) : (hWa h).1 = h.1 + 19 := by rw [hWa, iX10a_1, xnew_1]
theorem hWd_1 (h : xH) : (hWd h).1 = h.1 + 79 := by rw [hWd, iX10_1, xnew_1]
theorem hWd_K {h : xH} {b : Nat} (hb : b ≤ h.1) : (hWd h).2.1 b = h.2.1 b := by
  rw [hWd, iX10_K (by rw [xnew_1]; omega), xnew_K hb]
theorem iX6_Pr {h : xH} {a b : Nat} (h1 : b ≠ a) (h2 : b ≤ h.1) : (iX6 h a).2.2.1 b = h.2.2.1 b := funext fun _ => iX6_P h1 h2
theorem hWa_P {h : xH} {b : Nat} (hb : b ≤ h.1) : (hWa h).2.2.1 b = h.2.2.1 b := by
  funext k
  have n0 : b ≠ h.1 + 1 := by omega
  have n2 : b ≠ h.1 + 2 := by omega
  have n3 : b ≠ h.1 + 3 := by omega
  have n4 : b ≠ h.1 + 4 := by omega
  have n5 : b ≠ h.1 + 5 := by omega
  have n6 : b ≠ h.1 + 6 := by omega
  have n7 : b ≠ h.1 + 7 := by omega
  have n8 : b ≠ h.1 + 8 := by omega
  have n9 : b ≠ h.1 + 9 := by omega
  have n10 : b ≠ h.1 + 10 := by omega
  have n11 : b ≠ h.1 + 11 := by omega
  have n12 : b ≠ h.1 + 12 := by omega
  have n13 : b ≠ h.1 + 13 := by omega
  have n14 : b ≠ h.1 + 14 := by omega
  have n15 : b ≠ h.1 + 15 := by omega
  have n16 : b ≠ h.1 + 16 := by omega
  have n17 : b ≠ h.1 + 17 := by omega
  have n18 : b ≠ h.1 + 18 := by omega
  have n19 : b ≠ h.1 + 19 := by omega
  simp [hWa, iX10a, iX7, iX6, pP, pI, xnew, xu, xz, n0, n2, n3, n4, n5, n6, n7, n8, n9, n10, n11, n12, n13, n14, n15, n16, n17, n18, n19]
theorem hWd_P {h : xH} {b : Nat} (hb : b ≤ h.1) : (hWd h).2.2.1 b = h.2.2.1 b := by
  funext k
  rw [hWd_eq, wloop_P (by omega) 20 (by rw [hWa_1]; omega), hWa_P hb]
theorem hWa_at (h : xH) : (hWa h).2.1 (h.1 + 1) = (9, 0) ∧ (hWa h).2.1 (h.1 + 2) = (6, 0) ∧ (hWa h).2.1 (h.1 + 3) = (20, 4) ∧ (hWa h).2.1 (h.1 + 4) = (20, 4) ∧ (hWa h).2.1 (h.1 + 5) = (20, 4) ∧ (hWa h).2.1 (h.1 + 6) = (20, 16) ∧ (hWa h).2.1 (h.1 + 7) = (20, 4) ∧ (hWa h).2.1 (h.1 + 8) = (20, 5) ∧ (hWa h).2.1 (h.1 + 9) = (20, 5) ∧ (hWa h).2.1 (h.1 + 10) = (5, 0) ∧ (hWa h).2.1 (h.1 + 11) = (21, 16) ∧ (hWa h).2.1 (h.1 + 12) = (20, 4) ∧ (hWa h).2.1 (h.1 + 13) = (5, 0) ∧ (hWa h).2.1 (h.1 + 14) = (21, 16) ∧ (hWa h).2.1 (h.1 + 15) = (20, 4) ∧ (hWa h).2.1 (h.1 + 16) = (24, 20) ∧ (hWa h).2.1 (h.1 + 17) = (20, 10) ∧ (hWa h).2.1 (h.1 + 18) = (20, 10) ∧ (hWa h).2.1 (h.1 + 19) = (20, 10) := by
  refine ⟨?_, ?_, ?_, ?_, ?_, ?_, ?_, ?_, ?_, ?_, ?_, ?_, ?_, ?_, ?_, ?_, ?_, ?_, ?_⟩ <;> simp [hWa, iX10a, iX7, iX6, pP, pI, xnew, xk]
theorem hWa_Pat (h : xH) : (hWa h).2.2.1 (h.1 + 1) 0 = h.1 + 2 ∧ (hWa h).2.2.1 (h.1 + 1) 1 = h.1 + 13 ∧ (hWa h).2.2.1 (h.1 + 1) 2 = h.1 + 16 ∧ (hWa h).2.2.1 (h.1 + 1) 4 = h.1 + 17 ∧ (hWa h).2.2.1 (h.1 + 1) 5 = h.1 + 18 ∧ (hWa h).2.2.1 (h.1 + 1) 6 = h.1 + 19 ∧ (hWa h).2.2.1 (h.1 + 2) 9 = h.1 + 3 ∧ (hWa h).2.2.1 (h.1 + 2) 10 = h.1 + 4 ∧ (hWa h).2.2.1 (h.1 + 2) 11 = h.1 + 5 ∧ (hWa h).2.2.1 (h.1 + 2) 12 = h.1 + 6 ∧ (hWa h).2.2.1 (h.1 + 2) 13 = h.1 + 7 ∧ (hWa h).2.2.1 (h.1 + 2) 14 = h.1 + 8 ∧ (hWa h).2.2.1 (h.1 + 2) 15 = h.1 + 9 ∧ (hWa h).2.2.1 (h.1 + 2) 16 = h.1 + 10 ∧ (hWa h).2.2.1 (h.1 + 10) 0 = h.1 + 11 ∧ (hWa h).2.2.1 (h.1 + 10) 1 = h.1 + 12 ∧ (hWa h).2.2.1 (h.1 + 13) 0 = h.1 + 14 ∧ (hWa h).2.2.1 (h.1 + 13) 1 = h.1 + 15 := by
  refine ⟨?_, ?_, ?_, ?_, ?_, ?_, ?_, ?_, ?_, ?_, ?_, ?_, ?_, ?_, ?_, ?_, ?_, ?_⟩ <;> simp [hWa, iX10a, iX7, iX6, pP, pI, xnew, xu, xz]
set_option maxHeartbeats 1000000 in
theorem gw_wd_aux {n : Nat} {K : Nat → Nat × Nat} {P : Nat → Nat → Nat} (k1 : K (n + 1) = (9, 0)) (k2 : K (n + 2) = (6, 0)) (k3 : K (n + 3) = (20, 4)) (k4 : K (n + 4) = (20, 4)) (k5 : K (n + 5) = (20, 4)) (k6 : K (n + 6) = (20, 16)) (k7 : K (n + 7) = (20, 4)) (k8 : K (n + 8) = (20, 5)) (k9 : K (n + 9) = (20, 5)) (k10 : K (n + 10) = (5, 0)) (k11 : K (n + 11) = (21, 16)) (k12 : K (n + 12) = (20, 4)) (k13 : K (n + 13) = (5, 0)) (k14 : K (n + 14) = (21, 16)) (k15 : K (n + 15) = (20, 4)) (k16 : K (n + 16) = (24, 20)) (k17 : K (n + 17) = (20, 10)) (k18 : K (n + 18) = (20, 10)) (k19 : K (n + 19) = (20, 10)) (p1 : P (n + 1) 0 = n + 2) (p2 : P (n + 1) 1 = n + 13) (p3 : P (n + 1) 2 = n + 16) (p4 : P (n + 1) 4 = n + 17) (p5 : P (n + 1) 5 = n + 18) (p6 : P (n + 1) 6 = n + 19) (p7 : P (n + 2) 9 = n + 3) (p8 : P (n + 2) 10 = n + 4) (p9 : P (n + 2) 11 = n + 5) (p10 : P (n + 2) 12 = n + 6) (p11 : P (n + 2) 13 = n + 7) (p12 : P (n + 2) 14 = n + 8) (p13 : P (n + 2) 15 = n + 9) (p14 : P (n + 2) 16 = n + 10) (p15 : P (n + 10) 0 = n + 11) (p16 : P (n + 10) 1 = n + 12) (p17 : P (n + 13) 0 = n + 14) (p18 : P (n + 13) 1 = n + 15) (hL : ∀ j, j < 20 → K (n + 19 + 3 * j + 1) = (5, 0) ∧ K (n + 19 + 3 * j + 2) = (21, 16) ∧ K (n + 19 + 3 * j + 3) = (20, 4) ∧ P (n + 19 + 3 * j + 1) 0 = n + 19 + 3 * j + 2 ∧ P (n + 19 + 3 * j + 1) 1 = n + 19 + 3 * j + 3 ∧ P (n + 16) j = n + 19 + 3 * j + 1) (cs : ∀ a t, n < a → K a = t → t.1 < 30 → (∃ j, j < 20 ∧ (a = n + 19 + 3 * j + 1 ∨ a = n + 19 + 3 * j + 2 ∨ a = n + 19 + 3 * j + 3)) ∨ a = n + 1 ∨ a = n + 2 ∨ a = n + 3 ∨ a = n + 4 ∨ a = n + 5 ∨ a = n + 6 ∨ a = n + 7 ∨ a = n + 8 ∨ a = n + 9 ∨ a = n + 10 ∨ a = n + 11 ∨ a = n + 12 ∨ a = n + 13 ∨ a = n + 14 ∨ a = n + 15 ∨ a = n + 16 ∨ a = n + 17 ∨ a = n + 18 ∨ a = n + 19) : (∀ a, n < a → K a = (5, 0) → gLState K P a) ∧ (∀ a, n < a → K a = (6, 0) → gLStreet K P a) ∧ (∀ a, n < a → K a = (9, 0) → gLWorld K P a) ∧ (∀ a, n < a → K a = (7, 0) → gLReader K P a) ∧ (∀ a, n < a → K a = (2, 0) → gLRule K P a) := by
  refine ⟨fun a h1 h2 => ?_, fun a h1 h2 => ?_, fun a h1 h2 => ?_, fun a h1 h2 => ?_, fun a h1 h2 => ?_⟩
  · rcases cs a _ h1 h2 (by decide) with ⟨j, hj, rfl | rfl | rfl⟩ | rfl | rfl | rfl | rfl | rfl | rfl | rfl | rfl | rfl | rfl | rfl | rfl | rfl | rfl | rfl | rfl | rfl | rfl | rfl
    · exact ⟨(hL j hj).2.2.2.1, (hL j hj).2.1, (hL j hj).2.2.2.2.1, (hL j hj).2.2.1⟩
    · rw [(hL j hj).2.1] at h2; cases h2
    · rw [(hL j hj).2.2.1] at h2; cases h2
    · rw [k1] at h2; cases h2
    · rw [k2] at h2; cases h2
    · rw [k3] at h2; cases h2
    · rw [k4] at h2; cases h2
    · rw [k5] at h2; cases h2
    · rw [k6] at h2; cases h2
    · rw [k7] at h2; cases h2
    · rw [k8] at h2; cases h2
    · rw [k9] at h2; cases h2
    · exact ⟨p15, k11, p16, k12⟩
    · rw [k11] at h2; cases h2
    · rw [k12] at h2; cases h2
    · exact ⟨p17, k14, p18, k15⟩
    · rw [k14] at h2; cases h2
    · rw [k15] at h2; cases h2
    · rw [k16] at h2; cases h2
    · rw [k17] at h2; cases h2
    · rw [k18] at h2; cases h2
    · rw [k19] at h2; cases h2
  · rcases cs a _ h1 h2 (by decide) with ⟨j, hj, rfl | rfl | rfl⟩ | rfl | rfl | rfl | rfl | rfl | rfl | rfl | rfl | rfl | rfl | rfl | rfl | rfl | rfl | rfl | rfl | rfl | rfl | rfl
    · rw [(hL j hj).1] at h2; cases h2
    · rw [(hL j hj).2.1] at h2; cases h2
    · rw [(hL j hj).2.2.1] at h2; cases h2
    · rw [k1] at h2; cases h2
    · exact ⟨p7, k3, p8, k4, p9, k5, p10, k6, p11, k7, p12, k8, p13, k9, p14, k10⟩
    · rw [k3] at h2; cases h2
    · rw [k4] at h2; cases h2
    · rw [k5] at h2; cases h2
    · rw [k6] at h2; cases h2
    · rw [k7] at h2; cases h2
    · rw [k8] at h2; cases h2
    · rw [k9] at h2; cases h2
    · rw [k10] at h2; cases h2
    · rw [k11] at h2; cases h2
    · rw [k12] at h2; cases h2
    · rw [k13] at h2; cases h2
    · rw [k14] at h2; cases h2
    · rw [k15] at h2; cases h2
    · rw [k16] at h2; cases h2
    · rw [k17] at h2; cases h2
    · rw [k18] at h2; cases h2
    · rw [k19] at h2; cases h2
  · rcases cs a _ h1 h2 (by decide) with ⟨j, hj, rfl | rfl | rfl⟩ | rfl | rfl | rfl | rfl | rfl | rfl | rfl | rfl | rfl | rfl | rfl | rfl | rfl | rfl | rfl | rfl | rfl | rfl | rfl
    · rw [(hL j hj).1] at h2; cases h2
    · rw [(hL j hj).2.1] at h2; cases h2
    · rw [(hL j hj).2.2.1] at h2; cases h2
    · exact ⟨p2, k13, p3, k16, p4, k17, p5, k18, p6, k19, by rw [p1]; exact k2, fun j hj => by rw [show n + 1 + 15 = n + 16 by omega, (hL j hj).2.2.2.2.2]; exact (hL j hj).1⟩
    · rw [k2] at h2; cases h2
    · rw [k3] at h2; cases h2
    · rw [k4] at h2; cases h2
    · rw [k5] at h2; cases h2
    · rw [k6] at h2; cases h2
    · rw [k7] at h2; cases h2
    · rw [k8] at h2; cases h2
    · rw [k9] at h2; cases h2
    · rw [k10] at h2; cases h2
    · rw [k11] at h2; cases h2
    · rw [k12] at h2; cases h2
    · rw [k13] at h2; cases h2
    · rw [k14] at h2; cases h2
    · rw [k15] at h2; cases h2
    · rw [k16] at h2; cases h2
    · rw [k17] at h2; cases h2
    · rw [k18] at h2; cases h2
    · rw [k19] at h2; cases h2
  · rcases cs a _ h1 h2 (by decide) with ⟨j, hj, rfl | rfl | rfl⟩ | rfl | rfl | rfl | rfl | rfl | rfl | rfl | rfl | rfl | rfl | rfl | rfl | rfl | rfl | rfl | rfl | rfl | rfl | rfl
    · rw [(hL j hj).1] at h2; cases h2
    · rw [(hL j hj).2.1] at h2; cases h2
    · rw [(hL j hj).2.2.1] at h2; cases h2
    · rw [k1] at h2; cases h2
    · rw [k2] at h2; cases h2
    · rw [k3] at h2; cases h2
    · rw [k4] at h2; cases h2
    · rw [k5] at h2; cases h2
    · rw [k6] at h2; cases h2
    · rw [k7] at h2; cases h2
    · rw [k8] at h2; cases h2
    · rw [k9] at h2; cases h2
    · rw [k10] at h2; cases h2
    · rw [k11] at h2; cases h2
    · rw [k12] at h2; cases h2
    · rw [k13] at h2; cases h2
    · rw [k14] at h2; cases h2
    · rw [k15] at h2; cases h2
    · rw [k16] at h2; cases h2
    · rw [k17] at h2; cases h2
    · rw [k18] at h2; cases h2
    · rw [k19] at h2; cases h2
  · rcases cs a _ h1 h2 (by decide) with ⟨j, hj, rfl | rfl | rfl⟩ | rfl | rfl | rfl | rfl | rfl | rfl | rfl | rfl | rfl | rfl | rfl | rfl | rfl | rfl | rfl | rfl | rfl | rfl | rfl
    · rw [(hL j hj).1] at h2; cases h2
    · rw [(hL j hj).2.1] at h2; cases h2
    · rw [(hL j hj).2.2.1] at h2; cases h2
    · rw [k1] at h2; cases h2
    · rw [k2] at h2; cases h2
    · rw [k3] at h2; cases h2
    · rw [k4] at h2; cases h2
    · rw [k5] at h2; cases h2
    · rw [k6] at h2; cases h2
    · rw [k7] at h2; cases h2
    · rw [k8] at h2; cases h2
    · rw [k9] at h2; cases h2
    · rw [k10] at h2; cases h2
    · rw [k11] at h2; cases h2
    · rw [k12] at h2; cases h2
    · rw [k13] at h2; cases h2
    · rw [k14] at h2; cases h2
    · rw [k15] at h2; cases h2
    · rw [k16] at h2; cases h2
    · rw [k17] at h2; cases h2
    · rw [k18] at h2; cases h2
    · rw [k19] at h2; cases h2
theorem Fr_wd {h : xH} (F : Fr h) : Fr (hWd h) := Fr_10 (Fr_new F _) _
theorem gw_wd {h : xH} (G : GW h.2.1 h.2.2.1) (F : Fr h) : GW (hWd h).2.1 (hWd h).2.2.1 := by
  have hK : ∀ b, b ≤ h.1 + 19 → (hWd h).2.1 b = (hWa h).2.1 b := fun b hb => by rw [hWd_eq]; exact wloop_K 20 (by rw [hWa_1]; exact hb)
  have hP : ∀ b, b ≤ h.1 + 19 → b ≠ h.1 + 16 → ∀ k, (hWd h).2.2.1 b k = (hWa h).2.2.1 b k := fun b hb hn k => by rw [hWd_eq]; exact wloop_P hn 20 (by rw [hWa_1]; exact hb)
  have hL := fun j hj => wloop_at (kp := h.1 + 16) 20 (h := hWa h) (by rw [hWa_1]; omega) j hj
  rw [← hWd_eq, hWa_1] at hL
  have cs : ∀ a t, h.1 < a → (hWd h).2.1 a = t → t.1 < 30 → (∃ j, j < 20 ∧ (a = h.1 + 19 + 3 * j + 1 ∨ a = h.1 + 19 + 3 * j + 2 ∨ a = h.1 + 19 + 3 * j + 3)) ∨ a = h.1 + 1 ∨ a = h.1 + 2 ∨ a = h.1 + 3 ∨ a = h.1 + 4 ∨ a = h.1 + 5 ∨ a = h.1 + 6 ∨ a = h.1 + 7 ∨ a = h.1 + 8 ∨ a = h.1 + 9 ∨ a = h.1 + 10 ∨ a = h.1 + 11 ∨ a = h.1 + 12 ∨ a = h.1 + 13 ∨ a = h.1 + 14 ∨ a = h.1 + 15 ∨ a = h.1 + 16 ∨ a = h.1 + 17 ∨ a = h.1 + 18 ∨ a = h.1 + 19 := by
    intro a t h1 h2 h3
    have := Fr_le (Fr_wd F) h2 h3
    rw [hWd_1] at this
    clear h2 h3 hL hK hP G F
    by_cases e : a ≤ h.1 + 19
    · exact Or.inr (by omega)
    · exact Or.inl ⟨(a - (h.1 + 20)) / 3, by omega, by omega⟩
  obtain ⟨k1, k2, k3, k4, k5, k6, k7, k8, k9, k10, k11, k12, k13, k14, k15, k16, k17, k18, k19⟩ := hWa_at h
  obtain ⟨p1, p2, p3, p4, p5, p6, p7, p8, p9, p10, p11, p12, p13, p14, p15, p16, p17, p18⟩ := hWa_Pat h
  have aux := gw_wd_aux (n := h.1) (K := (hWd h).2.1) (P := (hWd h).2.2.1) ((hK (h.1 + 1) (Nat.add_le_add_left (by decide) _)).trans k1) ((hK (h.1 + 2) (Nat.add_le_add_left (by decide) _)).trans k2) ((hK (h.1 + 3) (Nat.add_le_add_left (by decide) _)).trans k3) ((hK (h.1 + 4) (Nat.add_le_add_left (by decide) _)).trans k4) ((hK (h.1 + 5) (Nat.add_le_add_left (by decide) _)).trans k5) ((hK (h.1 + 6) (Nat.add_le_add_left (by decide) _)).trans k6) ((hK (h.1 + 7) (Nat.add_le_add_left (by decide) _)).trans k7) ((hK (h.1 + 8) (Nat.add_le_add_left (by decide) _)).trans k8) ((hK (h.1 + 9) (Nat.add_le_add_left (by decide) _)).trans k9) ((hK (h.1 + 10) (Nat.add_le_add_left (by decide) _)).trans k10) ((hK (h.1 + 11) (Nat.add_le_add_left (by decide) _)).trans k11) ((hK (h.1 + 12) (Nat.add_le_add_left (by decide) _)).trans k12) ((hK (h.1 + 13) (Nat.add_le_add_left (by decide) _)).trans k13) ((hK (h.1 + 14) (Nat.add_le_add_left (by decide) _)).trans k14) ((hK (h.1 + 15) (Nat.add_le_add_left (by decide) _)).trans k15) ((hK (h.1 + 16) (Nat.add_le_add_left (by decide) _)).trans k16) ((hK (h.1 + 17) (Nat.add_le_add_left (by decide) _)).trans k17) ((hK (h.1 + 18) (Nat.add_le_add_left (by decide) _)).trans k18) ((hK (h.1 + 19) (Nat.add_le_add_left (by decide) _)).trans k19) ((hP (h.1 + 1) (Nat.add_le_add_left (by decide) _) (fun z => absurd (Nat.add_left_cancel z) (by decide)) 0).trans p1) ((hP (h.1 + 1) (Nat.add_le_add_left (by decide) _) (fun z => absurd (Nat.add_left_cancel z) (by decide)) 1).trans p2) ((hP (h.1 + 1) (Nat.add_le_add_left (by decide) _) (fun z => absurd (Nat.add_left_cancel z) (by decide)) 2).trans p3) ((hP (h.1 + 1) (Nat.add_le_add_left (by decide) _) (fun z => absurd (Nat.add_left_cancel z) (by decide)) 4).trans p4) ((hP (h.1 + 1) (Nat.add_le_add_left (by decide) _) (fun z => absurd (Nat.add_left_cancel z) (by decide)) 5).trans p5) ((hP (h.1 + 1) (Nat.add_le_add_left (by decide) _) (fun z => absurd (Nat.add_left_cancel z) (by decide)) 6).trans p6) ((hP (h.1 + 2) (Nat.add_le_add_left (by decide) _) (fun z => absurd (Nat.add_left_cancel z) (by decide)) 9).trans p7) ((hP (h.1 + 2) (Nat.add_le_add_left (by decide) _) (fun z => absurd (Nat.add_left_cancel z) (by decide)) 10).trans p8) ((hP (h.1 + 2) (Nat.add_le_add_left (by decide) _) (fun z => absurd (Nat.add_left_cancel z) (by decide)) 11).trans p9) ((hP (h.1 + 2) (Nat.add_le_add_left (by decide) _) (fun z => absurd (Nat.add_left_cancel z) (by decide)) 12).trans p10) ((hP (h.1 + 2) (Nat.add_le_add_left (by decide) _) (fun z => absurd (Nat.add_left_cancel z) (by decide)) 13).trans p11) ((hP (h.1 + 2) (Nat.add_le_add_left (by decide) _) (fun z => absurd (Nat.add_left_cancel z) (by decide)) 14).trans p12) ((hP (h.1 + 2) (Nat.add_le_add_left (by decide) _) (fun z => absurd (Nat.add_left_cancel z) (by decide)) 15).trans p13) ((hP (h.1 + 2) (Nat.add_le_add_left (by decide) _) (fun z => absurd (Nat.add_left_cancel z) (by decide)) 16).trans p14) ((hP (h.1 + 10) (Nat.add_le_add_left (by decide) _) (fun z => absurd (Nat.add_left_cancel z) (by decide)) 0).trans p15) ((hP (h.1 + 10) (Nat.add_le_add_left (by decide) _) (fun z => absurd (Nat.add_left_cancel z) (by decide)) 1).trans p16) ((hP (h.1 + 13) (Nat.add_le_add_left (by decide) _) (fun z => absurd (Nat.add_left_cancel z) (by decide)) 0).trans p17) ((hP (h.1 + 13) (Nat.add_le_add_left (by decide) _) (fun z => absurd (Nat.add_left_cancel z) (by decide)) 1).trans p18) hL cs
  exact gw_ext G F (fun b hb => hWd_K hb) (fun b hb => hWd_P hb) aux.1 aux.2.1 aux.2.2.1 aux.2.2.2.1 aux.2.2.2.2

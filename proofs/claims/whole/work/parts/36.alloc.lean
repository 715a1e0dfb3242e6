/-! Rules made; rule(), street(), image(). -/
theorem xnew_Pr {h : xH} {t : Nat × Nat} {b : Nat} (hb : b ≤ h.1) : (xnew h t).2.2.1 b = h.2.2.1 b := xz_ne (by omega)
theorem xnew_I {h : xH} {t : Nat × Nat} {b : Nat} (hb : b ≤ h.1) : (xnew h t).2.2.2.1 b = h.2.2.2.1 b := xz_ne (by omega)
theorem xnew_L {h : xH} {t : Nat × Nat} {b : Nat} (hb : b ≤ h.1) : (xnew h t).2.2.2.2 b = h.2.2.2.2 b := xz_ne (by omega)
theorem xcpy_P {h : xH} {a n b : Nat} (hb : b ≤ h.1) : (xcpy h a n).2.2.1 b = h.2.2.1 b := xz_ne (by omega)
theorem xcpy_I {h : xH} {a n b : Nat} (hb : b ≤ h.1) : (xcpy h a n).2.2.2.1 b = h.2.2.2.1 b := by
  show xrow (xz h.2.2.2.1 (h.1 + 1) 0) (h.1 + 1) _ b = _
  rw [xrow_ne (by omega), xz_ne (by omega)]
theorem xcpy_L {h : xH} {a n b : Nat} (hb : b ≤ h.1) : (xcpy h a n).2.2.2.2 b = h.2.2.2.2 b := xz_ne (by omega)
/-- the three arrays of a rule, without its fields -/
def hR3 (h : xH) (s c : Nat) : xH := xcpy (xcpy (xcpy (xnew h (2, 0)) 8 s) 9 c) 10 c
def hRu (h : xH) (s c : Nat) : xH := iX3 (hR3 h s c) (h.1 + 1) (h.1 + 2) (h.1 + 3) (h.1 + 4)
theorem hR3_1 (h : xH) (s c : Nat) : (hR3 h s c).1 = h.1 + 4 := rfl
theorem hRu_1 (h : xH) (s c : Nat) : (hRu h s c).1 = h.1 + 4 := rfl
theorem hRu_K {h : xH} {s c b : Nat} (hb : b ≤ h.1) : (hRu h s c).2.1 b = h.2.1 b := by
  show (hR3 h s c).2.1 b = _
  rw [hR3, xcpy_K (by simp only [xcpy_1, xnew_1]; omega), xcpy_K (by simp only [xcpy_1, xnew_1]; omega), xcpy_K (by simp only [xnew_1]; omega), xnew_K hb]
theorem hRu_P {h : xH} {s c b : Nat} (hb : b ≤ h.1) : (hRu h s c).2.2.1 b = h.2.2.1 b := by
  show xu (xu (xu (hR3 h s c).2.2.1 (h.1 + 1) 0 (h.1 + 2)) (h.1 + 1) 1 (h.1 + 3)) (h.1 + 1) 2 (h.1 + 4) b = _
  rw [xu_ne (by omega), xu_ne (by omega), xu_ne (by omega), hR3, xcpy_P (by simp only [xcpy_1, xnew_1]; omega), xcpy_P (by simp only [xcpy_1, xnew_1]; omega), xcpy_P (by simp only [xnew_1]; omega), xnew_Pr hb]
theorem hRu_I {h : xH} {s c b : Nat} (hb : b ≤ h.1) : (hRu h s c).2.2.2.1 b = h.2.2.2.1 b := by
  show (hR3 h s c).2.2.2.1 b = _
  rw [hR3, xcpy_I (by simp only [xcpy_1, xnew_1]; omega), xcpy_I (by simp only [xcpy_1, xnew_1]; omega), xcpy_I (by simp only [xnew_1]; omega), xnew_I hb]
theorem hRu_L {h : xH} {s c b : Nat} (hb : b ≤ h.1) : (hRu h s c).2.2.2.2 b = h.2.2.2.2 b := by
  show (hR3 h s c).2.2.2.2 b = _
  rw [hR3, xcpy_L (by simp only [xcpy_1, xnew_1]; omega), xcpy_L (by simp only [xcpy_1, xnew_1]; omega), xcpy_L (by simp only [xnew_1]; omega), xnew_L hb]
theorem hR3_at (h : xH) (s c : Nat) : (hR3 h s c).2.1 (h.1 + 1) = (2, 0) ∧ (hR3 h s c).2.1 (h.1 + 2) = (20, s) ∧ (hR3 h s c).2.1 (h.1 + 3) = (20, c) ∧ (hR3 h s c).2.1 (h.1 + 4) = (20, c) := by
  refine ⟨?_, ?_, ?_, ?_⟩ <;> simp [hR3, xcpy, xnew, xk]
theorem Fr_ru {h : xH} (F : Fr h) (s c : Nat) : Fr (hRu h s c) := Fr_pP (Fr_pP (Fr_pP (Fr_cpy (Fr_cpy (Fr_cpy (Fr_new F _) _ _) _ _) _ _) _ _ _) _ _ _) _ _ _
theorem gw_ru {h : xH} (G : GW h.2.1 h.2.2.1) (F : Fr h) (s c : Nat) : GW (hRu h s c).2.1 (hRu h s c).2.2.1 := by
  have k := hR3_at h s c
  have hK : (hRu h s c).2.1 = (hR3 h s c).2.1 := rfl
  rw [← hK] at k
  have p1 : (hRu h s c).2.2.1 (h.1 + 1) 0 = h.1 + 2 ∧ (hRu h s c).2.2.1 (h.1 + 1) 1 = h.1 + 3 ∧ (hRu h s c).2.2.1 (h.1 + 1) 2 = h.1 + 4 := by
    have : (hRu h s c).2.2.1 = xu (xu (xu (hR3 h s c).2.2.1 (h.1 + 1) 0 (h.1 + 2)) (h.1 + 1) 1 (h.1 + 3)) (h.1 + 1) 2 (h.1 + 4) := rfl
    rw [this]
    refine ⟨?_, ?_, ?_⟩ <;> simp [xu]
  have cs : ∀ a t, h.1 < a → (hRu h s c).2.1 a = t → t.1 < 30 → a = h.1 + 1 ∨ a = h.1 + 2 ∨ a = h.1 + 3 ∨ a = h.1 + 4 := by
    intro a t h1 h2 h3
    have := Fr_le (Fr_ru F s c) h2 h3
    rw [hRu_1] at this
    omega
  have oK := fun b hb => hRu_K (h := h) (s := s) (c := c) (b := b) hb
  have oP := fun b hb => hRu_P (h := h) (s := s) (c := c) (b := b) hb
  obtain ⟨k1, k2, k3, k4⟩ := k
  obtain ⟨q1, q2, q3⟩ := p1
  have no : ∀ a t, t ≠ (2, 0) → t.1 < 20 → h.1 < a → (hRu h s c).2.1 a = t → False := by
    intro a t ht ht2 h1 h2
    rcases cs a t h1 h2 (by omega) with rfl | rfl | rfl | rfl
    · rw [k1] at h2; exact ht h2.symm
    · rw [k2] at h2; rw [← h2] at ht2; exact absurd ht2 (show ¬ 20 < 20 by decide)
    · rw [k3] at h2; rw [← h2] at ht2; exact absurd ht2 (show ¬ 20 < 20 by decide)
    · rw [k4] at h2; rw [← h2] at ht2; exact absurd ht2 (show ¬ 20 < 20 by decide)
  refine gw_ext G F oK oP (fun a h1 h2 => (no a _ (by decide) (by decide) h1 h2).elim) (fun a h1 h2 => (no a _ (by decide) (by decide) h1 h2).elim) (fun a h1 h2 => (no a _ (by decide) (by decide) h1 h2).elim) (fun a h1 h2 => (no a _ (by decide) (by decide) h1 h2).elim) (fun a h1 h2 => ?_)
  rcases cs a _ h1 h2 (by decide) with rfl | rfl | rfl | rfl
  · refine ⟨q1, ?_, q2, ?_, q3, ?_⟩
    · rw [show h.1 + 1 + 1 = h.1 + 2 by omega, k2]
    · rw [show h.1 + 1 + 2 = h.1 + 3 by omega, k3]
    · rw [show h.1 + 1 + 3 = h.1 + 4 by omega, k4]
  · rw [k2] at h2; cases h2
  · rw [k3] at h2; cases h2
  · rw [k4] at h2; cases h2
theorem kmin {E : xE} {B : Nat} (x y : Int32) (h : xH) : MX E B 1 0 0 yJ9_min_7cf53 cJ9_min_7cf53 2 (some .int) [.int x, .int y] h (some (.int (if x ≤ y then x else y)), h) := by
  refine MX_ofJ (lv := [(0, .int x), (1, .int y)]) (by decide +kernel) (Nat.le_of_ble_eq_true rfl) rfl ?_
  refine X_iload_n 0 dJ9_min_7cf53_0 rfl rfl ?_
  refine X_iload_n 1 dJ9_min_7cf53_1 rfl rfl ?_
  refine X_icmp_gt (tgt := 9) dJ9_min_7cf53_2 (by decide) (fun c => ?_) (fun c => ?_)
  · rw [if_neg (Int32.not_le.mpr c)]
    refine X_iload_n 1 dJ9_min_7cf53_9 rfl rfl ?_
    exact X_iret dJ9_min_7cf53_10 rfl
  · rw [if_pos (Int32.not_lt.mp c)]
    refine X_iload_n 0 dJ9_min_7cf53_5 rfl rfl ?_
    refine X_goto (tgt := 10) dJ9_min_7cf53_6 (by decide) ?_
    exact X_iret dJ9_min_7cf53_10 rfl
set_option maxHeartbeats 1000000 in
set_option maxRecDepth 100000 in
theorem kX4_made {E : xE} {B : Nat} {h : xH} {s c : Nat} (d : Nat) (hd : 3 ≤ d) (G : GW h.2.1 h.2.2.1) (F : Fr h) (es : h.2.2.2.1 7 4 = nI s) (hs : s ≤ 400) (ec : h.2.2.2.1 7 5 = nI c) (hc : c ≤ 12) : MX E B d 4 427 yX4_made cX4_made 1 (some (.object "LatestCoat$Rule")) [.ref 7] h (some (.ref (h.1 + 1)), hRu h s c) := by
  refine MX_of (lv := [(0, .ref 7)]) (by decide +kernel) (Nat.le_of_ble_eq_true rfl) rfl ?_
  obtain ⟨d, rfl⟩ : ∃ d0, d = d0 + 1 := ⟨d - 1, by omega⟩
  have l7 := Fr_le F (g_K7 G) (by decide)
  have l8 := Fr_le F (g_K8 G) (by decide)
  have l9 := Fr_le F (g_K9 G) (by decide)
  have l10 := Fr_le F (g_K10 G) (by decide)
  refine X_newJ (N := 3) (b := h.1 + 1) nl_X4_25 rfl rfl ⟨by omega, by omega⟩ dX4_made_0 ?_
  refine X_dup dX4_made_3 rfl ?_
  refine X_aload_n 0 dX4_made_4 rfl rfl rfl ?_
  have a7 : (xnew h (2, 0)).2.1 7 = (3, 0) := by rw [xnew_K l7]; exact g_K7 G
  refine X_getPe (b := 8) fl_X4_9 a7 rfl (by rw [xnew_Pr l7]; exact g_P7_1 G) dX4_made_5 ?_
  refine X_aload_n 0 dX4_made_8 rfl rfl rfl ?_
  refine X_getI fl_X4_27 a7 rfl dX4_made_9 ?_
  rw [show (xnew h (2, 0)).2.2.2.1 7 4 = nI s by rw [xnew_I l7]; exact es]
  refine X_callS (v := some (.ref (h.1 + 2))) (kJ7_copyOf (h := xnew h (2, 0)) (a := 8) (n := s) (len := 400) d (by omega) (by rw [xnew_1]; omega) (by rw [xnew_K l8]; exact g_K8 G) hs (by decide) (fun x y h => kmin x y h)) ml_X4_31 ms_J7_copyOf_59c91 rfl rfl (Nat.le_refl _) ⟨by omega, by omega⟩ (Nat.le_of_ble_eq_true rfl) dX4_made_12 ?_
  refine X_aload_n 0 dX4_made_15 rfl rfl rfl ?_
  have b1 : (xcpy (xnew h (2, 0)) 8 s).1 = h.1 + 2 := rfl
  have b7 : (xcpy (xnew h (2, 0)) 8 s).2.1 7 = (3, 0) := by rw [xcpy_K (by rw [xnew_1]; omega)]; exact a7
  refine X_getPe (b := 9) fl_X4_15 b7 rfl (by rw [xcpy_P (by rw [xnew_1]; omega), xnew_Pr l7]; exact g_P7_2 G) dX4_made_16 ?_
  refine X_aload_n 0 dX4_made_19 rfl rfl rfl ?_
  refine X_getI fl_X4_37 b7 rfl dX4_made_20 ?_
  rw [show (xcpy (xnew h (2, 0)) 8 s).2.2.2.1 7 5 = nI c by rw [xcpy_I (by rw [xnew_1]; omega), xnew_I l7]; exact ec]
  refine X_callS (v := some (.ref (h.1 + 3))) (kJ7_copyOf (h := xcpy (xnew h (2, 0)) 8 s) (a := 9) (n := c) (len := 12) d (by omega) (by rw [b1]; omega) (by rw [xcpy_K (by rw [xnew_1]; omega), xnew_K l9]; exact g_K9 G) hc (by decide) (fun x y h => kmin x y h)) ml_X4_31 ms_J7_copyOf_59c91 rfl rfl (Nat.le_refl _) ⟨by omega, by omega⟩ (Nat.le_of_ble_eq_true rfl) dX4_made_23 ?_
  refine X_aload_n 0 dX4_made_26 rfl rfl rfl ?_
  have c1 : (xcpy (xcpy (xnew h (2, 0)) 8 s) 9 c).1 = h.1 + 3 := rfl
  have c7 : (xcpy (xcpy (xnew h (2, 0)) 8 s) 9 c).2.1 7 = (3, 0) := by rw [xcpy_K (by rw [b1]; omega)]; exact b7
  refine X_getPe (b := 10) fl_X4_18 c7 rfl (by rw [xcpy_P (by rw [b1]; omega), xcpy_P (by rw [xnew_1]; omega), xnew_Pr l7]; exact g_P7_3 G) dX4_made_27 ?_
  refine X_aload_n 0 dX4_made_30 rfl rfl rfl ?_
  refine X_getI fl_X4_37 c7 rfl dX4_made_31 ?_
  rw [show (xcpy (xcpy (xnew h (2, 0)) 8 s) 9 c).2.2.2.1 7 5 = nI c by rw [xcpy_I (by rw [b1]; omega), xcpy_I (by rw [xnew_1]; omega), xnew_I l7]; exact ec]
  refine X_callS (v := some (.ref (h.1 + 4))) (kJ7_copyOf (h := xcpy (xcpy (xnew h (2, 0)) 8 s) 9 c) (a := 10) (n := c) (len := 12) d (by omega) (by rw [c1]; omega) (by rw [xcpy_K (by rw [b1]; omega), xcpy_K (by rw [xnew_1]; omega), xnew_K l10]; exact g_K10 G) hc (by decide) (fun x y h => kmin x y h)) ml_X4_31 ms_J7_copyOf_59c91 rfl rfl (Nat.le_refl _) ⟨by omega, by omega⟩ (Nat.le_of_ble_eq_true rfl) dX4_made_34 ?_
  refine X_callI (a := h.1 + 1) (kX3_init (h := hR3 h s c) (a := h.1 + 1) (b1 := h.1 + 2) (b2 := h.1 + 3) (b3 := h.1 + 4) d (by omega) (by rw [hR3_1]; omega) (by omega) (hR3_at h s c).1) ml_X4_40 mi_X3_init rfl (by omega) rfl rfl (Nat.le_refl _) ⟨by omega, by omega⟩ (Nat.le_of_ble_eq_true rfl) dX4_made_37 ?_
  refine X_widen (u2 := 4) (w2 := 427) (by omega) (by omega) ?_
  exact X_aret dX4_made_40 rfl (Or.inl ⟨_, rfl⟩) rfl

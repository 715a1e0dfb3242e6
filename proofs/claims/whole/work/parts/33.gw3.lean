/-! GW when cells come; the rows of new worlds, readers, rules. -/
def Fr (h : xH) : Prop := ∀ b, h.1 < b → h.2.1 b = (99, 0)
theorem Fr_le {h : xH} (F : Fr h) {b : Nat} {t : Nat × Nat} (e : h.2.1 b = t) (ht : t.1 < 30) : b ≤ h.1 := by
  rcases Nat.lt_or_ge h.1 b with q | q
  · rw [F b q] at e
    rw [← e] at ht
    exact absurd ht (by decide)
  · exact q
theorem gwK_tag : ∀ q ∈ gwK, q.2.1 < 30 := by decide +kernel
theorem gw_ext {h h' : xH} (G : GW h.2.1 h.2.2.1) (F : Fr h) (oK : ∀ b, b ≤ h.1 → h'.2.1 b = h.2.1 b) (oP : ∀ b, b ≤ h.1 → h'.2.2.1 b = h.2.2.1 b)
    (n5 : ∀ a, h.1 < a → h'.2.1 a = (5, 0) → gLState h'.2.1 h'.2.2.1 a) (n6 : ∀ a, h.1 < a → h'.2.1 a = (6, 0) → gLStreet h'.2.1 h'.2.2.1 a) (n9 : ∀ a, h.1 < a → h'.2.1 a = (9, 0) → gLWorld h'.2.1 h'.2.2.1 a) (n7 : ∀ a, h.1 < a → h'.2.1 a = (7, 0) → gLReader h'.2.1 h'.2.2.1 a) (n2 : ∀ a, h.1 < a → h'.2.1 a = (2, 0) → gLRule h'.2.1 h'.2.2.1 a) : GW h'.2.1 h'.2.2.1 := by
  have up : ∀ {b : Nat} {t : Nat × Nat}, h.2.1 b = t → t.1 < 30 → h'.2.1 b = t := fun e ht => (oK _ (Fr_le F e ht)).trans e
  have G0 := G
  obtain ⟨g1, g2, g3, g4, g5, g6, g7, g8, g9, g10, g11⟩ := G
  refine ⟨fun q hq => up (g1 q hq) (gwK_tag q hq), fun q hq => ?_, fun a ha => ?_, fun a ha => ?_, fun a ha => ?_, fun a ha => ?_, fun a ha => ?_, fun j hj => ?_, fun j hj => ?_, fun j hj => ?_, fun j hj => ?_⟩
  · have ho := gw_obj G0 hq
    rw [oP q.1 (Fr_le F rfl (by omega))]
    exact g2 q hq
  · rcases Nat.lt_or_ge h.1 a with q | q
    · exact n5 a q ha
    · have e := g3 a ((oK a q).symm.trans ha)
      unfold gLState at e ⊢
      rw [oP a q]
      exact ⟨e.1, up e.2.1 (by decide), e.2.2.1, up e.2.2.2 (by decide)⟩
  · rcases Nat.lt_or_ge h.1 a with q | q
    · exact n6 a q ha
    · have e := g4 a ((oK a q).symm.trans ha)
      unfold gLStreet at e ⊢
      rw [oP a q]
      obtain ⟨e1, e2, e3, e4, e5, e6, e7, e8, e9, e10, e11, e12, e13, e14, e15, e16⟩ := e
      exact ⟨e1, up e2 (by decide), e3, up e4 (by decide), e5, up e6 (by decide), e7, up e8 (by decide), e9, up e10 (by decide), e11, up e12 (by decide), e13, up e14 (by decide), e15, up e16 (by decide)⟩
  · rcases Nat.lt_or_ge h.1 a with q | q
    · exact n9 a q ha
    · have e := g5 a ((oK a q).symm.trans ha)
      unfold gLWorld at e ⊢
      obtain ⟨e1, e2, e3, e4, e5, e6, e7, e8, e9, e10, e11, e12⟩ := e
      have l15 := Fr_le F e4 (by decide)
      rw [oP a q, oP (a + 15) l15]
      exact ⟨e1, up e2 (by decide), e3, up e4 (by decide), e5, up e6 (by decide), e7, up e8 (by decide), e9, up e10 (by decide), up e11 (by decide), fun j hj => up (e12 j hj) (by decide)⟩
  · rcases Nat.lt_or_ge h.1 a with q | q
    · exact n7 a q ha
    · have e := g6 a ((oK a q).symm.trans ha)
      unfold gLReader at e ⊢
      rw [oP a q]
      exact ⟨e.1, e.2.1, up e.2.2 (by decide)⟩
  · rcases Nat.lt_or_ge h.1 a with q | q
    · exact n2 a q ha
    · have e := g7 a ((oK a q).symm.trans ha)
      unfold gLRule at e ⊢
      obtain ⟨e1, e2, e3, e4, e5, e6⟩ := e
      have l1 := oK _ (Fr_le F e2 (show 20 < 30 by decide))
      have l2 := oK _ (Fr_le F e4 (show 20 < 30 by decide))
      have l3 := oK _ (Fr_le F e6 (show 20 < 30 by decide))
      rw [oP a q, l1, l2, l3]
      exact ⟨e1, e2, e3, e4, e5, e6⟩
  · rw [oP 11 (Fr_le F (g_K11 G0) (by decide))]
    rcases g8 j hj with e | e
    · exact Or.inl e
    · exact Or.inr (up e (by decide))
  · rw [oP 91 (Fr_le F (g_K91 G0) (by decide))]
    rcases g9 j hj with e | e
    · exact Or.inl e
    · exact Or.inr (up e (by decide))
  · rw [oP 103 (Fr_le F (g_K103 G0) (by decide))]
    exact ⟨(g10 j hj).1, up (g10 j hj).2 (by decide)⟩
  · rw [oP 110 (Fr_le F (g_K110 G0) (by decide))]
    exact ⟨(g11 j hj).1, up (g11 j hj).2 (by decide)⟩
-- freshness goes on
theorem Fr_new {h : xH} (F : Fr h) (t : Nat × Nat) : Fr (xnew h t) := fun b hb => by
  have hb2 : h.1 + 1 < b := hb
  show xk h.2.1 (h.1 + 1) t b = _
  rw [xk_ne (by omega)]
  exact F b (by omega)
theorem Fr_pP {h : xH} (F : Fr h) (a k v : Nat) : Fr (pP h a k v) := F
theorem Fr_pI {h : xH} (F : Fr h) (a k : Nat) (v : Int32) : Fr (pI h a k v) := F
theorem Fr_cpy {h : xH} (F : Fr h) (a n : Nat) : Fr (xcpy h a n) := fun b hb => by
  have hb2 : h.1 + 1 < b := hb
  show xk h.2.1 (h.1 + 1) _ b = _
  rw [xk_ne (by omega)]
  exact F b (by omega)
theorem Fr_multi {h : xH} (F : Fr h) (t ti N M : Nat) : Fr (xmulti h t ti N M) := fun b hb => by
  have hb2 : h.1 + 1 + N < b := hb
  simp only [xmulti]
  rw [if_neg (by omega), if_neg (by omega)]
  exact F b (by omega)
theorem Fr_6 {h : xH} (F : Fr h) (a : Nat) : Fr (iX6 h a) := Fr_pP (Fr_new (Fr_pP (Fr_new F _) _ _ _) _) _ _ _
theorem Fr_7 {h : xH} (F : Fr h) (a : Nat) : Fr (iX7 h a) := by
  unfold iX7
  repeat' first | with_reducible exact F | with_reducible apply Fr_pP | with_reducible apply Fr_new | with_reducible apply Fr_6
theorem Fr_8 {h : xH} (F : Fr h) (a b : Nat) : Fr (iX8 h a b) := by
  unfold iX8
  repeat' first | with_reducible exact F | with_reducible apply Fr_pP | with_reducible apply Fr_new | with_reducible apply Fr_7
theorem Fr_wl {h : xH} (F : Fr h) (kp : Nat) : ∀ j, Fr (wloop kp j h)
  | 0 => F
  | j + 1 => Fr_pP (Fr_6 (Fr_new (Fr_wl F kp j) _) _) _ _ _
theorem Fr_10 {h : xH} (F : Fr h) (a : Nat) : Fr (iX10 h a) := by
  unfold iX10
  refine Fr_wl ?_ _ _
  unfold iX10a
  repeat' first | with_reducible exact F | with_reducible apply Fr_pP | with_reducible apply Fr_pI | with_reducible apply Fr_new | with_reducible apply Fr_6 | with_reducible apply Fr_7

-- what the new cells are
theorem iX6_at {h : xH} {a : Nat} (ha : a ≤ h.1) : (iX6 h a).2.1 (h.1 + 1) = (21, 16) ∧ (iX6 h a).2.1 (h.1 + 2) = (20, 4) ∧ (iX6 h a).2.2.1 a 0 = h.1 + 1 ∧ (iX6 h a).2.2.1 a 1 = h.1 + 2 := by
  have n1 : a ≠ h.1 + 1 := by omega
  have n2 : a ≠ h.1 + 2 := by omega
  refine ⟨?_, ?_, ?_, ?_⟩ <;> simp [iX6, pP, xnew, xk, xu, xz, n1, n2]
theorem iX6_Pz {h : xH} {a b k : Nat} (h1 : b ≠ a) (h2 : h.1 < b) (h3 : b ≤ h.1 + 2) : (iX6 h a).2.2.1 b k = 0 := by
  simp only [iX6, pP, xnew]
  rw [xu_ne h1]
  unfold xz
  split
  · rfl
  · rw [xu_ne h1]
    rw [if_pos (by omega)]
theorem iX7_at {h : xH} {a : Nat} (ha : a ≤ h.1) : ((iX7 h a).2.1 (h.1 + 1) = (20, 4) ∧ (iX7 h a).2.1 (h.1 + 2) = (20, 4) ∧ (iX7 h a).2.1 (h.1 + 3) = (20, 4) ∧ (iX7 h a).2.1 (h.1 + 4) = (20, 16) ∧ (iX7 h a).2.1 (h.1 + 5) = (20, 4) ∧ (iX7 h a).2.1 (h.1 + 6) = (20, 5) ∧ (iX7 h a).2.1 (h.1 + 7) = (20, 5) ∧ (iX7 h a).2.1 (h.1 + 8) = (5, 0) ∧ (iX7 h a).2.1 (h.1 + 9) = (21, 16) ∧ (iX7 h a).2.1 (h.1 + 10) = (20, 4)) ∧ ((iX7 h a).2.2.1 a 9 = h.1 + 1 ∧ (iX7 h a).2.2.1 a 10 = h.1 + 2 ∧ (iX7 h a).2.2.1 a 11 = h.1 + 3 ∧ (iX7 h a).2.2.1 a 12 = h.1 + 4 ∧ (iX7 h a).2.2.1 a 13 = h.1 + 5 ∧ (iX7 h a).2.2.1 a 14 = h.1 + 6 ∧ (iX7 h a).2.2.1 a 15 = h.1 + 7 ∧ (iX7 h a).2.2.1 a 16 = h.1 + 8 ∧ (iX7 h a).2.2.1 (h.1 + 8) 0 = h.1 + 9 ∧ (iX7 h a).2.2.1 (h.1 + 8) 1 = h.1 + 10) := by
  have n1 : a ≠ h.1 + 1 := by omega
  have n2 : a ≠ h.1 + 2 := by omega
  have n3 : a ≠ h.1 + 3 := by omega
  have n4 : a ≠ h.1 + 4 := by omega
  have n5 : a ≠ h.1 + 5 := by omega
  have n6 : a ≠ h.1 + 6 := by omega
  have n7 : a ≠ h.1 + 7 := by omega
  have n8 : a ≠ h.1 + 8 := by omega
  have n9 : a ≠ h.1 + 9 := by omega
  have n10 : a ≠ h.1 + 10 := by omega
  have m8 : h.1 + 8 ≠ a := by omega
  refine ⟨⟨?_, ?_, ?_, ?_, ?_, ?_, ?_, ?_, ?_, ?_⟩, ?_, ?_, ?_, ?_, ?_, ?_, ?_, ?_, ?_, ?_⟩ <;> simp [iX7, iX6, pP, xnew, xk, xu, xz, n1, n2, n3, n4, n5, n6, n7, n8, n9, n10, m8]
theorem iX7_P {h : xH} {a b : Nat} (h1 : b ≠ a) (h2 : b ≤ h.1) : (iX7 h a).2.2.1 b = h.2.2.1 b := by
  funext k
  have n1 : b ≠ h.1 + 1 := by omega
  have n2 : b ≠ h.1 + 2 := by omega
  have n3 : b ≠ h.1 + 3 := by omega
  have n4 : b ≠ h.1 + 4 := by omega
  have n5 : b ≠ h.1 + 5 := by omega
  have n6 : b ≠ h.1 + 6 := by omega
  have n7 : b ≠ h.1 + 7 := by omega
  have n8 : b ≠ h.1 + 8 := by omega
  have n9 : b ≠ h.1 + 9 := by omega
  have n10 : b ≠ h.1 + 10 := by omega
  simp [iX7, iX6, pP, xnew, xu, xz, h1, n1, n2, n3, n4, n5, n6, n7, n8, n9, n10]

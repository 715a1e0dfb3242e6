/-! The memory behind both constructors has its shape. -/
theorem Fr_h00 : Fr h00 := fun _ _ => rfl
def hmN : Nat := 171
theorem hmZ_n : hmZ.1 = 171 := by decide +kernel
set_option maxRecDepth 100000 in
theorem Fr_hxZ : Fr hxZ := by
  unfold hxZ hx_130 iX5 iX1 iX2 iX4 iX9 hx0 
  repeat first
    | with_reducible refine Fr_pI ?_ _ _ _
    | with_reducible refine Fr_pP ?_ _ _ _
    | with_reducible refine Fr_new ?_ _
    | with_reducible refine Fr_multi ?_ _ _ _ _
    | with_reducible refine Fr_6 ?_ _
    | with_reducible refine Fr_7 ?_ _
    | with_reducible refine Fr_10 ?_ _
    | with_reducible refine Fr_8 ?_ _ _
  exact Fr_h00
set_option maxRecDepth 100000 in
theorem Fr_hmZ : Fr hmZ := by
  unfold hmZ hm_383 hm_285 hm_186 hm_87 hm0
  repeat first
    | with_reducible refine Fr_pI ?_ _ _ _
    | with_reducible refine Fr_pP ?_ _ _ _
    | with_reducible refine Fr_new ?_ _
  exact Fr_hxZ
theorem hmZ_le {a : Nat} {t : Nat × Nat} (e : hmZ.2.1 a = t) (ht : t.1 < 30) : a < 172 := by
  have := Fr_le Fr_hmZ e ht
  rw [hmZ_n] at this
  omega
theorem gw0_1 : ∀ q ∈ gwK, hmZ.2.1 q.1 = q.2 := by decide +kernel
theorem gw0_2 : ∀ q ∈ gwP, hmZ.2.2.1 q.1 q.2.1 = q.2.2 := by decide +kernel
theorem gw0_3 : ∀ a, a < 172 → hmZ.2.1 a = (5, 0) → gLState hmZ.2.1 hmZ.2.2.1 a := by unfold gLState; decide +kernel
theorem gw0_4a : ∀ a, a < 172 → hmZ.2.1 a = (6, 0) → a = 13 := by decide +kernel
theorem gw0_5a : ∀ a, a < 172 → hmZ.2.1 a = (9, 0) → a = 12 := by decide +kernel
theorem gw0_4 : ∀ a, a < 172 → hmZ.2.1 a = (6, 0) → gLStreet hmZ.2.1 hmZ.2.2.1 a := by
  intro a h e
  rw [gw0_4a a h e]
  unfold gLStreet
  repeat' apply And.intro
  all_goals decide +kernel
theorem gw0_5 : ∀ a, a < 172 → hmZ.2.1 a = (9, 0) → gLWorld hmZ.2.1 hmZ.2.2.1 a := by
  intro a h e
  rw [gw0_5a a h e]
  unfold gLWorld
  repeat' apply And.intro
  all_goals decide +kernel
theorem gw0_6 : ∀ a, a < 172 → ¬ hmZ.2.1 a = (7, 0) := by decide +kernel
theorem gw0_7 : ∀ a, a < 172 → ¬ hmZ.2.1 a = (2, 0) := by decide +kernel
theorem gw0_8 : (∀ j, j < 6 → hmZ.2.2.1 11 j = 0 ∨ hmZ.2.1 (hmZ.2.2.1 11 j) = (2, 0)) ∧ (∀ j, j < 4 → hmZ.2.2.1 91 j = 0 ∨ hmZ.2.1 (hmZ.2.2.1 91 j) = (9, 0)) ∧ (∀ j, j < 5 → hmZ.2.2.1 103 j = 104 + j ∧ hmZ.2.1 (104 + j) = (21, 6)) ∧ (∀ j, j < 6 → hmZ.2.2.1 110 j = 111 + j ∧ hmZ.2.1 (111 + j) = (20, 6)) := by decide +kernel
theorem gw0 : GW hmZ.2.1 hmZ.2.2.1 ∧ Fr hmZ := ⟨⟨gw0_1, gw0_2, fun a e => gw0_3 a (hmZ_le e (by decide)) e, fun a e => gw0_4 a (hmZ_le e (by decide)) e, fun a e => gw0_5 a (hmZ_le e (by decide)) e, fun a e => absurd e (gw0_6 a (hmZ_le e (by decide))), fun a e => absurd e (gw0_7 a (hmZ_le e (by decide))), gw0_8⟩, Fr_hmZ⟩

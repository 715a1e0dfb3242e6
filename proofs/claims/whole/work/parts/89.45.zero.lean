/-! The beginning; all calls. -/
def S0 : sT := (fun _ => 0, fun _ => 0, fun _ => 0, fun _ => 0, fun _ => 0, fun _ => 0)
def A0 : aT := (fun _ => [], fun _ => 0, 0, 0)
def W0 : wT := (S0, A0, A0, [], [], 0, -1)
def Z0 : zT := (W0, fun _ => none, [], [])
theorem okA_0 : okA S0 A0 := ⟨fun c hc => absurd hc (Nat.not_lt_zero _), fun q hq => absurd hq (Nat.not_lt_zero _), (show 0 < 16 by decide), fun t ht => absurd ht (Nat.not_lt_zero _)⟩
theorem okW_0 : okW 0 0 W0 := ⟨okU_0.1, ⟨okA_0, fun c hc => absurd hc (Nat.not_lt_zero _), rfl⟩, ⟨okA_0, Nat.le_refl 0⟩, ⟨Nat.zero_le _, fun B hB => by cases hB⟩, ⟨Nat.zero_le _, fun e he => by cases he⟩, (show 0 < 2147483648 by decide), (show (-1 : Int) ≤ -1 by decide), (show (-1 : Int) < ((0 : Nat) : Int) by decide)⟩
theorem okZ_0 : okZ 0 Z0 := ⟨okW_0, (fun i W hW => by cases hW), ⟨Nat.zero_le _, fun ru h => by cases h⟩, Nat.zero_le _, fun x hx => by cases hx⟩
theorem z_P : hmZ.2.2.1 12 0 = 13 ∧ (∀ j, j < 20 → hmZ.2.2.1 27 j = 31 + 3 * j) ∧ ∀ j, j < 4 → hmZ.2.2.1 91 j = 0 := by decide +kernel
theorem z_I : (∀ i, i < 9 → hmZ.2.2.2.1 13 i = nI 0) ∧ (hmZ.2.2.2.1 12 3 = nI 0 ∧ hmZ.2.2.2.1 12 7 = nI 0 ∧ hmZ.2.2.2.1 12 8 = nI 0 ∧ hmZ.2.2.2.1 12 9 = zI (-1)) ∧ (hmZ.2.2.2.1 21 2 = nI 0 ∧ hmZ.2.2.2.1 21 3 = nI 0 ∧ hmZ.2.2.2.1 24 2 = nI 0 ∧ hmZ.2.2.2.1 24 3 = nI 0) ∧ hmZ.2.2.2.1 1 5 = nI 0 ∧ hmZ.2.2.2.1 1 1 = nI 0 := by decide +kernel
theorem z_R : (∀ i, i < 12 → hmZ.2.2.2.1 124 i = nI 0) ∧ hmZ.2.2.2.1 124 12 = zI (-1) ∧ hmZ.2.2.2.1 125 0 = nI 0 ∧ hmZ.2.2.2.1 140 0 = nI 0 ∧ (∀ i, i < 4 → hmZ.2.2.2.1 171 i = nI 0) ∧ (hmZ.2.2.2.1 123 51 = nI 0 ∧ hmZ.2.2.2.1 123 31 = nI 0 ∧ hmZ.2.2.2.1 123 27 = nI 0 ∧ hmZ.2.2.2.1 123 36 = nI 13) ∧ hmZ.2.2.2.1 142 0 = nI 0 := by decide +kernel
theorem z_CI : CI hmZ Z0 := by
  obtain ⟨p1, p2, p3⟩ := z_P
  obtain ⟨i1, i2, i3, i4, i5⟩ := z_I
  refine ⟨⟨⟨⟨?_, ?_⟩, ?_, ⟨i2.1, fun j B hB => by cases hB⟩, ⟨i2.2.1, fun j n t o hj => by cases hj⟩, i2.2.2.1, i2.2.2.2⟩, Or.inl p1⟩, ⟨fun j hj => ⟨j, hj, p2 j hj⟩, fun i j hi hj e => by rw [p2 i hi, p2 j hj] at e; omega⟩, ⟨fun i hi => p3 i hi, fun i j hi hj hij h0 => absurd (p3 i hi) h0⟩, ⟨i4, fun r ru hr => by cases hr⟩, i5, fun i x hx => by cases hx⟩
  · rw [p1]
    refine ⟨⟨i1 0 (by decide), i1 1 (by decide), i1 2 (by decide), i1 3 (by decide), i1 4 (by decide), i1 5 (by decide), i1 6 (by decide), i1 7 (by decide), i1 8 (by decide)⟩, fun t ht => absurd ht (Nat.not_lt_zero _), fun t ht => absurd ht (Nat.not_lt_zero _), fun t ht => absurd ht (Nat.not_lt_zero _)⟩
  · rw [p1]
    exact ⟨fun c hc => absurd hc (Nat.not_lt_zero _), fun c hc => absurd hc (Nat.not_lt_zero _), i3.1, i3.2.1⟩
  · exact ⟨fun c hc => absurd hc (Nat.not_lt_zero _), fun c hc => absurd hc (Nat.not_lt_zero _), i3.2.2.1, i3.2.2.2⟩
theorem z_RI : RI hmZ.2.2.2.1 Z0 := by
  obtain ⟨r1, r2, r3, r4, r5, r6, r7⟩ := z_R
  refine ⟨⟨⟨fun i hi => r1 i (by omega), fun t ht => ?_, fun t ht => absurd ht (Nat.not_lt_zero _), fun t ht => absurd ht (Nat.not_lt_zero _), fun t ht => absurd ht (Nat.not_lt_zero _)⟩, ⟨r1 8 (by decide), r1 9 (by decide), fun t ht => absurd ht (Nat.not_lt_zero _), fun t ht => absurd ht (Nat.not_lt_zero _)⟩, ⟨fun t ht => absurd ht (Nat.not_lt_zero _), fun t ht => absurd ht (Nat.not_lt_zero _), r4⟩, ⟨r6.1, fun j B hB => by cases hB⟩, ⟨r1 10 (by decide), fun j n t o hj => by cases hj⟩, r1 11 (by decide), r2⟩, fun i hi => r5 i hi, ⟨r6.2.1, fun r ru hr => by cases hr⟩, ⟨r6.2.2.1, fun i x hx => by cases hx⟩, r6.2.2.2, r7⟩
  have : t = 0 := Nat.le_zero.mp ht
  subst this
  exact r3
theorem Inv_0 : Inv 0 hmZ := ⟨gw0, Z0, okZ_0, z_CI, z_RI⟩
theorem Inv_mono {k : Nat} {h : xH} (hI : Inv k h) : Inv (k + 1) h := by
  obtain ⟨g, Z, ok, C, R⟩ := hI
  exact ⟨g, Z, okZ_mono (Nat.le_succ k) ok, C, R⟩
theorem q_all {k : Nat} (hk : k < 512) : stAll (Inv k) (Inv (k + 1)) := ⟨q_feed hk, q_end hk, q_street hk, q_rule hk, q_force hk, q_cell hk, q_coat hk, q_thing hk, q_painter hk, q_rain hk, q_hour hk, q_paint hk, q_scrape hk, q_vote hk, q_undo hk, q_ahead hk, q_rents hk, q_least hk, q_fewest hk, q_when hk, q_game hk, q_share hk, q_then hk, q_byPart hk, q_one hk, q_log hk, q_ruled hk, q_look hk, q_worth hk, q_seed hk, q_years hk, q_count hk, q_image hk, q_back hk⟩

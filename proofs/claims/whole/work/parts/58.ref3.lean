/-! Bounds, rain, bare things in both. -/
theorem cmp_lt (x y : Int64) : lg_cmp x y < 0 ↔ x < y := by
  unfold lg_cmp
  by_cases h : x > y
  · rw [if_pos h]
    refine ⟨fun c => absurd c (by decide), fun c => ?_⟩
    rw [Int64.lt_iff_toInt_lt] at c
    have h' : y < x := h
    rw [Int64.lt_iff_toInt_lt] at h'
    omega
  · rw [if_neg h]
    by_cases h2 : x = y
    · rw [if_pos h2, h2]
      exact ⟨fun c => absurd c (by decide), fun c => absurd c (Int64.lt_irrefl)⟩
    · rw [if_neg h2]
      refine ⟨fun _ => ?_, fun _ => by decide⟩
      have h' : ¬ y < x := h
      rw [Int64.lt_iff_toInt_lt] at h' ⊢
      have h3 : x.toInt ≠ y.toInt := fun e => h2 (Int64.toInt_inj.mp e)
      omega
theorem cmp_gt (x y : Int64) : 0 < lg_cmp x y ↔ y < x := by
  unfold lg_cmp
  by_cases h : x > y
  · rw [if_pos h]
    exact ⟨fun _ => h, fun _ => by decide⟩
  · rw [if_neg h]
    by_cases h2 : x = y
    · rw [if_pos h2, h2]
      exact ⟨fun c => absurd c (by decide), fun c => absurd c (Int64.lt_irrefl)⟩
    · rw [if_neg h2]
      exact ⟨fun c => absurd c (by decide), fun c => absurd c h⟩
theorem rIn32 (x y z : Int32) : mX12_in x.toInt64 y.toInt64 z.toInt64 = some (bI (decide (y ≤ x) && decide (x ≤ z))) := by
  unfold mX12_in
  have e1 : lg_cmp x.toInt64 y.toInt64 < 0 ↔ x < y := by rw [cmp_lt, Int64.lt_iff_toInt_lt, Int32.toInt_toInt64, Int32.toInt_toInt64, Int32.lt_iff_toInt_lt]
  have e2 : 0 < lg_cmp x.toInt64 z.toInt64 ↔ z < x := by rw [cmp_gt, Int64.lt_iff_toInt_lt, Int32.toInt_toInt64, Int32.toInt_toInt64, Int32.lt_iff_toInt_lt]
  by_cases q1 : x < y
  · rw [if_pos (e1.mpr q1)]
    have : ¬ y ≤ x := by rw [Int32.le_iff_toInt_le]; rw [Int32.lt_iff_toInt_lt] at q1; omega
    simp [this, bI]
  · rw [if_neg (fun c => q1 (e1.mp c))]
    have h1 : y ≤ x := by rw [Int32.le_iff_toInt_le]; rw [Int32.lt_iff_toInt_lt] at q1; omega
    by_cases q2 : z < x
    · rw [if_pos (e2.mpr q2)]
      have : ¬ x ≤ z := by rw [Int32.le_iff_toInt_le]; rw [Int32.lt_iff_toInt_lt] at q2; omega
      simp [this, bI]
    · rw [if_neg (fun c => q2 (e2.mp c))]
      have h2 : x ≤ z := by rw [Int32.le_iff_toInt_le]; rw [Int32.lt_iff_toInt_lt] at q2; omega
      simp [h1, h2, bI]
theorem rInN {n : Nat} (hn : n < 100000) (x : Int32) : mX12_in x.toInt64 0 (nI n - 1).toInt64 = some (bI (inb x n)) := by
  rw [show (0 : Int64) = (nI 0).toInt64 from by decide, rIn32]
  congr 2
  unfold inb
  rw [li1, nSubZ]
  have e1 : (nI 0 ≤ x) ↔ 0 ≤ x.toInt := by rw [Int32.le_iff_toInt_le, nI_toInt (by omega)]; omega
  have e2 : (x ≤ zI ((n : Int) - (1 : Nat))) ↔ x.toInt < n := by rw [Int32.le_iff_toInt_le, zI_toInt (by omega) (by omega)]; omega
  rw [decide_eq_decide.mpr e1, decide_eq_decide.mpr e2]
theorem bI_or (b : Bool) : bI b = 0 ∨ bI b = 1 := by cases b <;> decide
theorem rIsThing_ok {I : Nat → Nat → Int32} {S : sT} (R : rSn I S) (O : okS S) (x : Int32) : mX12_isThing I x = some (bI (inb x (sTh S))) := by
  have o1 := O.1
  unfold mX12_isThing
  rw [rSn_th R, rInN (by omega), Option.bind_some, if_pos (bI_or _)]
theorem rIsCell_ok {I : Nat → Nat → Int32} {S : sT} (R : rSn I S) (O : okS S) (x : Int32) : mX12_isCell I x = some (bI (inb x (sCe S))) := by
  have o1 := O.1
  unfold mX12_isCell
  rw [rSn_ce R, rInN (by omega), Option.bind_some, if_pos (bI_or _)]
theorem rIsPainter_ok {I : Nat → Nat → Int32} {S : sT} (R : rSn I S) (O : okS S) (x : Int32) : mX12_isPainter I x = some (bI (inb x (sPa S))) := by
  have o1 := O.1
  unfold mX12_isPainter
  rw [rSn_pa R, rInN (by omega), Option.bind_some, if_pos (bI_or _)]
theorem rRains_go {I : Nat → Nat → Int32} {S : sT} (R : rSn I S) (O : okS S) {h : Nat} (hh : h < 100000) : ∀ (f n k : Nat), n < f → n + k = sRa S → mX12_rains_2 I f (nI h) (nI k) = some (bI (rainF S h n k))
  | 0, n, k, h1, _ => absurd h1 (by omega)
  | f + 1, n, k, h1, h2 => by
    have o1 := O.1
    rw [mX12_rains_2, rSn_ra R]
    cases n with
    | zero => rw [if_pos ((nLe (by omega) (by omega)).mpr (by omega))]; rfl
    | succ n =>
      have hk : k < sRa S := by omega
      have ck := R.2.2.2.2 k hk
      have ok := O.2.2.2 k hk
      rw [if_neg (fun c => absurd ((nLe (by omega) (by omega)).mp c) (by omega)), if_pos (nIn (by omega) (by omega)), if_pos (nIn (by omega) (by omega)), nIx (by omega), ck.1, ck.2, rIn32, Option.bind_some, nI_1, rRains_go R O hh f n (k + 1) (by omega) (by omega), rainF]
      rw [show decide (nI (sRf S k) ≤ nI h) = decide (sRf S k ≤ h) from decide_eq_decide.mpr (nLe (by omega) (by omega)), show decide (nI h ≤ nI (sRt S k)) = decide (h ≤ sRt S k) from decide_eq_decide.mpr (nLe (by omega) (by omega))]
      cases decide (sRf S k ≤ h) && decide (h ≤ sRt S k) with
      | true => rw [if_neg ((bI_ne _).mpr rfl)]; rfl
      | false => rw [if_pos ((bI_0 _).mpr rfl)]; rfl
theorem rRains_ok {I : Nat → Nat → Int32} {S : sT} (R : rSn I S) (O : okS S) {h : Nat} (hh : h < 100000) : mX12_rains I (nI h) = some (bI (rainS S h)) := rRains_go R O hh xf (sRa S) 0 (by have := O.1; unfold xf; omega) (by omega)

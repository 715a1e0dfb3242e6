/-! Calls that change little: what is left of the whole state. -/
theorem xi2b_2 (x : Int32) : xi2b (xi2b x) = xi2b x := by
  unfold xi2b
  congr 1
  apply Int8.toBitVec_inj.mp
  apply BitVec.eq_of_getLsbD_eq
  intro i hi
  simp [hi]
theorem byte_key {y z : Int32} (h : y.toBitVec.toNat % 256 = z.toBitVec.toNat % 256) : xi2b y = xi2b z := by
  unfold xi2b
  congr 1
  apply Int8.toBitVec_inj.mp
  apply BitVec.eq_of_toNat_eq
  rw [Int32.toBitVec_toInt8, Int32.toBitVec_toInt8, BitVec.signExtend_eq_setWidth_of_le _ (by decide), BitVec.signExtend_eq_setWidth_of_le _ (by decide), BitVec.toNat_setWidth, BitVec.toNat_setWidth]
  exact h
theorem toInt_cases (x : Int32) : (x.toInt = x.toBitVec.toNat ∨ x.toInt = (x.toBitVec.toNat : Int) - 4294967296) ∧ x.toBitVec.toNat < 4294967296 := by
  have h := BitVec.toInt_eq_toNat_cond x.toBitVec
  have h2 := x.toBitVec.isLt
  change x.toInt = _ at h
  refine ⟨?_, h2⟩
  split at h
  · exact Or.inl h
  · right; rw [h]; rfl
theorem byte_sh (x : Int32) : ∀ n, n < 4 → xi2b (xshr x (nI (8 * n))) = xi2b (xushr x (nI (8 * n))) := by
  intro n hn
  apply byte_key
  have c1 := toInt_cases x
  rcases (show n = 0 ∨ n = 1 ∨ n = 2 ∨ n = 3 by omega) with rfl | rfl | rfl | rfl
  · have a1 := pk_shr x (nI (8 * 0) &&& 31) 0 (by decide +kernel)
    have a2 := pk_ushr x (nI (8 * 0)) 0 (by decide +kernel)
    have c2 := toInt_cases (xshr x (nI (8 * 0)))
    change (xshr x (nI (8 * 0))).toInt = _ at a1
    change (xushr x (nI (8 * 0))).toBitVec.toNat = _ at a2
    rw [Int.shiftRight_eq_div_pow, show ((2 ^ 0 : Nat) : Int) = 1 from rfl] at a1
    rw [a2, show 2 ^ 0 = 1 from rfl]
    omega
  · have a1 := pk_shr x (nI (8 * 1) &&& 31) 8 (by decide +kernel)
    have a2 := pk_ushr x (nI (8 * 1)) 8 (by decide +kernel)
    have c2 := toInt_cases (xshr x (nI (8 * 1)))
    change (xshr x (nI (8 * 1))).toInt = _ at a1
    change (xushr x (nI (8 * 1))).toBitVec.toNat = _ at a2
    rw [Int.shiftRight_eq_div_pow, show ((2 ^ 8 : Nat) : Int) = 256 from rfl] at a1
    rw [a2, show 2 ^ 8 = 256 from rfl]
    omega
  · have a1 := pk_shr x (nI (8 * 2) &&& 31) 16 (by decide +kernel)
    have a2 := pk_ushr x (nI (8 * 2)) 16 (by decide +kernel)
    have c2 := toInt_cases (xshr x (nI (8 * 2)))
    change (xshr x (nI (8 * 2))).toInt = _ at a1
    change (xushr x (nI (8 * 2))).toBitVec.toNat = _ at a2
    rw [Int.shiftRight_eq_div_pow, show ((2 ^ 16 : Nat) : Int) = 65536 from rfl] at a1
    rw [a2, show 2 ^ 16 = 65536 from rfl]
    omega
  · have a1 := pk_shr x (nI (8 * 3) &&& 31) 24 (by decide +kernel)
    have a2 := pk_ushr x (nI (8 * 3)) 24 (by decide +kernel)
    have c2 := toInt_cases (xshr x (nI (8 * 3)))
    change (xshr x (nI (8 * 3))).toInt = _ at a1
    change (xushr x (nI (8 * 3))).toBitVec.toNat = _ at a2
    rw [Int.shiftRight_eq_div_pow, show ((2 ^ 24 : Nat) : Int) = 16777216 from rfl] at a1
    rw [a2, show 2 ^ 24 = 16777216 from rfl]
    omega
def byB (x : Int32) (n : Nat) : Int := (xushr x (nI (8 * n))).toInt8.toInt
theorem byB_rng (x : Int32) (n : Nat) : -128 ≤ byB x n ∧ byB x n ≤ 127 := by
  unfold byB
  generalize (xushr x (nI (8 * n))).toInt8 = y
  have h1 := Int8.le_toInt y
  have h2 := Int8.toInt_lt y
  simp at h1 h2
  omega
theorem byB_eq (x : Int32) (n : Nat) : xi2b (xushr x (nI (8 * n))) = zI (byB x n) := by
  unfold byB xi2b
  rw [← Int8.toInt_toInt32, zI_self]
def bysF (x : Int32) : Nat → List Int
  | 0 => []
  | n + 1 => byB x n :: bysF x n
section
variable {n : Nat} {K : Nat → Nat × Nat} {P P1 : Nat → Nat → Nat} {I J : Nat → Nat → Int32} {L M : Nat → Nat → Int64} {Z : zT} {W : wT} {k : Nat}
theorem cW_congrP {w : Nat} (h0 : P1 w = P w) (h1 : P1 (w + 15) = P (w + 15)) (C : cW P I L w W) : cW P1 I L w W := by
  unfold cW
  rw [h0, h1]
  exact C
theorem plZ_congrP {s : Nat} (h : P1 91 = P 91) (C : plZ n P s) : plZ n P1 s := by
  unfold plZ apt
  rw [h]
  exact C
theorem apt_congrP {s l : Nat} (h : P1 91 = P 91) (C : apt n P s l) : apt n P1 s l := by
  unfold apt
  rw [h]
  exact C
/-- the world now is another; all else is as it was -/
theorem CI_now (ok : okZ k Z) (C : CI (n, K, P, I, L) Z) (hW : cW P1 J M 12 W) (hp : plZ n P (P1 12 0)) (hk : (∀ j, j < 20 → ∃ i, i < 20 ∧ P1 27 j = 31 + 3 * i) ∧ ∀ i j, i < 20 → j < 20 → P1 27 i = P1 27 j → i = j) (hr : ∀ b, b < 3 ∨ b = 11 ∨ (13 ≤ b ∧ b ≤ 23) ∨ 171 < b → J b = I b ∧ M b = L b) (hP : ∀ b, b = 11 ∨ b = 91 ∨ 171 < b → P1 b = P b) : CI (n, K, P1, J, M) (W, Z.2) := by
  obtain ⟨⟨c1, c2⟩, ⟨c3, c4⟩, ⟨c5, c6⟩, ⟨c7, c8⟩, c9, c10⟩ := C
  have h91 : P1 91 = P 91 := hP 91 (by omega)
  have h11 : P1 11 = P 11 := hP 11 (by omega)
  refine ⟨⟨hW, plZ_congrP h91 hp⟩, hk, ⟨fun i hi => ?_, fun i j h1 h2 h3 => ?_⟩, ⟨?_, fun r ru hr2 => ?_⟩, ?_, fun i x hx => ?_⟩
  · have hm := c5 i hi
    change cM n P I L i (zM Z i) at hm
    show cM n P1 J M i (zM Z i)
    cases hz : zM Z i with
    | none => rw [hz] at hm; show P1 91 i = 0; rw [h91]; exact hm
    | some V =>
      rw [hz] at hm
      obtain ⟨⟨m1, m2⟩, m3, m4, m5⟩ := hm
      have e0 : P1 (P 91 i) = P (P 91 i) := hP _ (by omega)
      have e1 : P1 (P 91 i + 15) = P (P 91 i + 15) := hP _ (by omega)
      unfold cM
      rw [h91, e0, e1]
      refine ⟨⟨m1, m2⟩, cW_congrP e0 e1 (cW_congr (fun b hb => hr b ?_) (fun j B hB b h1 h2 => hr b ?_) m3), plZ_congrP h91 m4, m5⟩
      · rcases m4 with e | e
        · omega
        · have := e.1
          omega
      · have hj := (List.getElem?_eq_some_iff.mp hB).1
        rw [m5 j (by have := (ok.2.1 i V hz).2.2.2.1.1; omega)] at h1
        omega
  · show P1 91 i ≠ 0 → P1 91 j ≠ 0 → _
    rw [show (n, K, P1, J, M).2.2.1 91 = P 91 from h91]
    rw [h91]
    exact c6 i j h1 h2 h3
  · exact ((congrFun (hr 1 (by omega)).1 5).trans c7)
  · have e := c8 r ru hr2
    have ea : 171 < P 11 r := e.2.1
    show cR K J (P1 11 r) ru ∧ apt n P1 (P1 11 r) 3
    rw [h11]
    exact ⟨cR_congr (fun b h1 h2 => (hr b (by omega)).1) e.1, apt_congrP h91 e.2⟩
  · exact ((congrFun (hr 1 (by omega)).1 1).trans c9)
  · exact ((congrFun (hr 2 (by omega)).1 i).trans (c10 i x hx))
theorem RI_now (ok : okZ k Z) (R : RI I Z) (hW : rW J (J 123 51) W) (h2 : J 123 31 = I 123 31 ∧ J 123 27 = I 123 27 ∧ J 123 36 = I 123 36) (h3 : ∀ b, 142 ≤ b → b ≤ 156 → J b = I b) (h4 : ∀ i, i < 16400 → J 170 i = I 170 i) (h5 : ∀ i, i < 4 → J 171 i = I 171 i) : RI J (W, Z.2) := by
  obtain ⟨r1, r2, ⟨r3, r4⟩, ⟨r5, r6⟩, r7⟩ := R
  refine ⟨hW, fun i hi => ?_, ⟨h2.1.trans r3, fun r ru hr => rR_congr (fun b q1 q2 => h3 b (by omega) q2) (r4 r ru hr)⟩, ⟨h2.2.1.trans r5, fun i x hx => ?_⟩, h2.2.2.trans r7.1, (congrFun (h3 142 (by omega) (by omega)) 0).trans r7.2⟩
  · have hm := r2 i hi
    show rM J i (zM Z i)
    cases hz : zM Z i with
    | none => rw [hz] at hm; exact (h5 i hi).trans hm
    | some V =>
      rw [hz] at hm
      exact ⟨(h5 i hi).trans hm.1, rW_congr (ok.2.1 i V hz) (fun r j hj => h4 _ (imG_lt hi (lenR_200 hj) hj)) (h4 _ (by omega)) hm.2⟩
  · rw [h3 150 (by omega) (by omega)]; exact r6 i x hx
theorem okZ_now {k2 : Nat} (ok : okZ k Z) (h : k ≤ k2) (hW : okW k2 (zR Z).length W) : okZ k2 (W, Z.2) := ⟨hW, fun i V hV => okW_mono h (Nat.le_refl _) (ok.2.1 i V hV), ok.2.2⟩
end

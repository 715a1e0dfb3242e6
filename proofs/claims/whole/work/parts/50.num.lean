/-! Numbers: small ints as naturals (nI) and as integers (zI). -/
def zI (n : Int) : Int32 := Int32.ofInt n
theorem zI_nat (n : Nat) : zI (n : Int) = nI n := by
  show Int32.ofInt (n : Int) = Int32.ofNat n
  exact Int32.ofInt_eq_ofNat
theorem zI_toInt {n : Int} (h : -2147483648 ≤ n) (h2 : n < 2147483648) : (zI n).toInt = n := Int32.toInt_ofInt_of_le (by simpa using h) (by simpa using h2)
theorem zI_self (x : Int32) : zI x.toInt = x := Int32.ofInt_toInt x
theorem zI_add (a b : Int) : zI a + zI b = zI (a + b) := (Int32.ofInt_add a b).symm
theorem zI_mul (a b : Int) : zI a * zI b = zI (a * b) := (Int32.ofInt_mul a b).symm
theorem zI_neg (a : Int) : -zI a = zI (-a) := (Int32.ofInt_neg a).symm
theorem zI_sub (a b : Int) : zI a - zI b = zI (a - b) := (Int32.ofInt_sub a b).symm
theorem zI_le {a b : Int} (ha : -2147483648 ≤ a) (ha2 : a < 2147483648) (hb : -2147483648 ≤ b) (hb2 : b < 2147483648) : zI a ≤ zI b ↔ a ≤ b := by
  rw [Int32.le_iff_toInt_le, zI_toInt ha ha2, zI_toInt hb hb2]
theorem zI_lt {a b : Int} (ha : -2147483648 ≤ a) (ha2 : a < 2147483648) (hb : -2147483648 ≤ b) (hb2 : b < 2147483648) : zI a < zI b ↔ a < b := by
  rw [Int32.lt_iff_toInt_lt, zI_toInt ha ha2, zI_toInt hb hb2]
theorem zI_eq {a b : Int} (ha : -2147483648 ≤ a) (ha2 : a < 2147483648) (hb : -2147483648 ≤ b) (hb2 : b < 2147483648) : zI a = zI b ↔ a = b := by
  rw [← Int32.toInt_inj, zI_toInt ha ha2, zI_toInt hb hb2]
theorem nLe {a b : Nat} (ha : a < 2147483648) (hb : b < 2147483648) : nI a ≤ nI b ↔ a ≤ b := nI_leI ha hb
theorem nLt {a b : Nat} (ha : a < 2147483648) (hb : b < 2147483648) : nI a < nI b ↔ a < b := nI_ltI ha hb
theorem nEq {a b : Nat} (ha : a < 2147483648) (hb : b < 2147483648) : nI a = nI b ↔ a = b := by
  rw [← zI_nat, ← zI_nat, zI_eq (by omega) (by omega) (by omega) (by omega)]
  omega
theorem nAdd (a b : Nat) : nI a + nI b = nI (a + b) := nI_add a b
theorem nMul (a b : Nat) : nI a * nI b = nI (a * b) := pk_mul a b
theorem nSub {a b : Nat} (h : b ≤ a) : nI a - nI b = nI (a - b) := pk_sub h
theorem nNeg (a : Nat) : -nI a = zI (-(a : Int)) := by rw [← zI_nat, zI_neg]
theorem nSubZ (a b : Nat) : nI a - nI b = zI ((a : Int) - b) := by rw [← zI_nat, ← zI_nat, zI_sub]
theorem nIx {a : Nat} (h : a < 2147483648) : ix (nI a) = a := nI_clamp h
theorem nIn {a n : Nat} (h : a < n) (hn : n < 2147483648) : inb (nI a) n = true := by
  unfold inb
  rw [nI_toInt (by omega)]
  simp only [Bool.and_eq_true, decide_eq_true_eq]
  omega
theorem nIn_iff {a n : Nat} (ha : a < 2147483648) : inb (nI a) n = true ↔ a < n := by
  unfold inb
  rw [nI_toInt ha]
  simp only [Bool.and_eq_true, decide_eq_true_eq]
  omega
theorem inb_nat {x : Int32} {n : Nat} (h : inb x n = true) : ∃ a, a < n ∧ x = nI a := by
  unfold inb at h
  simp only [Bool.and_eq_true, decide_eq_true_eq] at h
  refine ⟨x.toInt.toNat, by omega, ?_⟩
  rw [← zI_nat, Int.toNat_of_nonneg h.1, zI_self]
theorem x_nat {x : Int32} {n : Nat} (h1 : 0 ≤ x) (h2 : x < nI n) (hn : n < 2147483648) : ∃ a, a < n ∧ x = nI a := by
  rw [Int32.le_iff_toInt_le] at h1
  rw [Int32.lt_iff_toInt_lt, nI_toInt hn] at h2
  refine ⟨x.toInt.toNat, by simp at h1; omega, ?_⟩
  rw [← zI_nat, Int.toNat_of_nonneg (by simpa using h1), zI_self]
def bI (b : Bool) : Int32 := if b then 1 else 0
theorem bI_0 (b : Bool) : bI b = 0 ↔ b = false := by cases b <;> decide
theorem bI_ne (b : Bool) : ¬ bI b = 0 ↔ b = true := by cases b <;> decide
theorem li0 : (0 : Int32) = nI 0 := rfl
theorem li1 : (1 : Int32) = nI 1 := rfl
theorem li2 : (2 : Int32) = nI 2 := rfl
theorem li3 : (3 : Int32) = nI 3 := rfl
theorem li4 : (4 : Int32) = nI 4 := rfl
theorem li5 : (5 : Int32) = nI 5 := rfl
theorem li6 : (6 : Int32) = nI 6 := rfl
theorem li7 : (7 : Int32) = nI 7 := rfl
theorem li8 : (8 : Int32) = nI 8 := rfl
theorem li9 : (9 : Int32) = nI 9 := rfl
theorem li10 : (10 : Int32) = nI 10 := rfl
theorem li11 : (11 : Int32) = nI 11 := rfl
theorem li12 : (12 : Int32) = nI 12 := rfl
theorem li13 : (13 : Int32) = nI 13 := rfl
theorem li14 : (14 : Int32) = nI 14 := rfl
theorem li15 : (15 : Int32) = nI 15 := rfl
theorem li16 : (16 : Int32) = nI 16 := rfl
theorem li17 : (17 : Int32) = nI 17 := rfl
theorem li18 : (18 : Int32) = nI 18 := rfl
theorem li19 : (19 : Int32) = nI 19 := rfl
theorem li20 : (20 : Int32) = nI 20 := rfl
theorem li21 : (21 : Int32) = nI 21 := rfl
theorem li22 : (22 : Int32) = nI 22 := rfl
theorem li23 : (23 : Int32) = nI 23 := rfl
theorem li24 : (24 : Int32) = nI 24 := rfl
theorem li25 : (25 : Int32) = nI 25 := rfl
theorem li26 : (26 : Int32) = nI 26 := rfl
theorem li27 : (27 : Int32) = nI 27 := rfl
theorem li28 : (28 : Int32) = nI 28 := rfl
theorem li29 : (29 : Int32) = nI 29 := rfl
theorem li30 : (30 : Int32) = nI 30 := rfl
theorem li31 : (31 : Int32) = nI 31 := rfl
theorem li32 : (32 : Int32) = nI 32 := rfl
theorem li33 : (33 : Int32) = nI 33 := rfl
theorem li34 : (34 : Int32) = nI 34 := rfl
theorem li35 : (35 : Int32) = nI 35 := rfl
theorem li36 : (36 : Int32) = nI 36 := rfl
theorem li37 : (37 : Int32) = nI 37 := rfl
theorem li40 : (40 : Int32) = nI 40 := rfl
theorem li42 : (42 : Int32) = nI 42 := rfl
theorem li43 : (43 : Int32) = nI 43 := rfl
theorem li45 : (45 : Int32) = nI 45 := rfl
theorem li47 : (47 : Int32) = nI 47 := rfl
theorem li48 : (48 : Int32) = nI 48 := rfl
theorem li57 : (57 : Int32) = nI 57 := rfl
theorem li59 : (59 : Int32) = nI 59 := rfl
theorem li60 : (60 : Int32) = nI 60 := rfl
theorem li61 : (61 : Int32) = nI 61 := rfl
theorem li62 : (62 : Int32) = nI 62 := rfl
theorem li64 : (64 : Int32) = nI 64 := rfl
theorem li80 : (80 : Int32) = nI 80 := rfl
theorem li91 : (91 : Int32) = nI 91 := rfl
theorem li93 : (93 : Int32) = nI 93 := rfl
theorem li97 : (97 : Int32) = nI 97 := rfl
theorem li99 : (99 : Int32) = nI 99 := rfl
theorem li100 : (100 : Int32) = nI 100 := rfl
theorem li122 : (122 : Int32) = nI 122 := rfl
theorem li182 : (182 : Int32) = nI 182 := rfl
theorem li199 : (199 : Int32) = nI 199 := rfl
theorem li255 : (255 : Int32) = nI 255 := rfl
theorem li300 : (300 : Int32) = nI 300 := rfl
theorem li380 : (380 : Int32) = nI 380 := rfl
theorem li400 : (400 : Int32) = nI 400 := rfl
theorem li999 : (999 : Int32) = nI 999 := rfl
theorem li1000 : (1000 : Int32) = nI 1000 := rfl
theorem li3640 : (3640 : Int32) = nI 3640 := rfl
theorem li4100 : (4100 : Int32) = nI 4100 := rfl
theorem li65536 : (65536 : Int32) = nI 65536 := rfl
theorem li99999 : (99999 : Int32) = nI 99999 := rfl
theorem lm100000 : (-100000 : Int32) = zI (-100000) := by decide +kernel
theorem lm100 : (-100 : Int32) = zI (-100) := by decide +kernel
theorem lm3 : (-3 : Int32) = zI (-3) := by decide +kernel
theorem lm2 : (-2 : Int32) = zI (-2) := by decide +kernel
theorem lm1 : (-1 : Int32) = zI (-1) := by decide +kernel

/-! Tools: conditions that omega decides, reads of rows that were written. -/
theorem ln1 : -nI 1 = zI (-1) := by decide +kernel
theorem ln2 : -nI 2 = zI (-2) := by decide +kernel
theorem ln3 : -nI 3 = zI (-3) := by decide +kernel
theorem ln100 : -nI 100 = zI (-100) := by decide +kernel
theorem ln100000 : -nI 100000 = zI (-100000) := by decide +kernel
theorem li100000 : (100000 : Int32) = nI 100000 := rfl
theorem tLe {a b : Nat} (h : a ≤ b) (hb : b < 2147483648) : (nI a ≤ nI b) = True := eq_true ((nLe (by omega) hb).mpr h)
theorem fLe {a b : Nat} (h : b < a) (ha : a < 2147483648) : (nI a ≤ nI b) = False := eq_false (fun c => absurd ((nLe ha (by omega)).mp c) (by omega))
theorem tLt {a b : Nat} (h : a < b) (hb : b < 2147483648) : (nI a < nI b) = True := eq_true ((nLt (by omega) hb).mpr h)
theorem fLt {a b : Nat} (h : b ≤ a) (ha : a < 2147483648) : (nI a < nI b) = False := eq_false (fun c => absurd ((nLt ha (by omega)).mp c) (by omega))
theorem tEq {a b : Nat} (h : a = b) : (nI a = nI b) = True := eq_true (by rw [h])
theorem fEq {a b : Nat} (h : a ≠ b) (ha : a < 2147483648) (hb : b < 2147483648) : (nI a = nI b) = False := eq_false (fun c => h ((nEq ha hb).mp c))
theorem iLe {a b : Nat} (ha : a < 2147483648) (hb : b < 2147483648) : (nI a ≤ nI b) = (a ≤ b) := propext (nLe ha hb)
theorem iLt {a b : Nat} (ha : a < 2147483648) (hb : b < 2147483648) : (nI a < nI b) = (a < b) := propext (nLt ha hb)
theorem iEq {a b : Nat} (ha : a < 2147483648) (hb : b < 2147483648) : (nI a = nI b) = (a = b) := propext (nEq ha hb)
theorem zLe_t {a b : Int} (h : a ≤ b) (ha : -2147483648 ≤ a) (ha2 : a < 2147483648) (hb : -2147483648 ≤ b) (hb2 : b < 2147483648) : (zI a ≤ zI b) = True := eq_true ((zI_le ha ha2 hb hb2).mpr h)
theorem zLe_f {a b : Int} (h : b < a) (ha : -2147483648 ≤ a) (ha2 : a < 2147483648) (hb : -2147483648 ≤ b) (hb2 : b < 2147483648) : (zI a ≤ zI b) = False := eq_false (fun c => absurd ((zI_le ha ha2 hb hb2).mp c) (by omega))
theorem zLe_i {a b : Int} (ha : -2147483648 ≤ a) (ha2 : a < 2147483648) (hb : -2147483648 ≤ b) (hb2 : b < 2147483648) : (zI a ≤ zI b) = (a ≤ b) := propext (zI_le ha ha2 hb hb2)
theorem znLe_t {a : Int} {b : Nat} (h : a ≤ b) (ha : -2147483648 ≤ a) (ha2 : a < 2147483648) (hb : b < 2147483648) : (zI a ≤ nI b) = True := by rw [nz]; exact zLe_t h ha ha2 (by omega) (by omega)
theorem znLe_f {a : Int} {b : Nat} (h : b < a) (ha : -2147483648 ≤ a) (ha2 : a < 2147483648) (hb : b < 2147483648) : (zI a ≤ nI b) = False := by rw [nz]; exact zLe_f h ha ha2 (by omega) (by omega)
theorem znLe_i {a : Int} {b : Nat} (ha : -2147483648 ≤ a) (ha2 : a < 2147483648) (hb : b < 2147483648) : (zI a ≤ nI b) = (a ≤ (b : Int)) := by rw [nz]; exact zLe_i ha ha2 (by omega) (by omega)
theorem nzLe_t {a : Nat} {b : Int} (h : a ≤ b) (ha : a < 2147483648) (hb : -2147483648 ≤ b) (hb2 : b < 2147483648) : (nI a ≤ zI b) = True := by rw [nz]; exact zLe_t h (by omega) (by omega) hb hb2
theorem nzLe_f {a : Nat} {b : Int} (h : b < a) (ha : a < 2147483648) (hb : -2147483648 ≤ b) (hb2 : b < 2147483648) : (nI a ≤ zI b) = False := by rw [nz]; exact zLe_f h (by omega) (by omega) hb hb2
theorem nzLe_i {a : Nat} {b : Int} (ha : a < 2147483648) (hb : -2147483648 ≤ b) (hb2 : b < 2147483648) : (nI a ≤ zI b) = ((a : Int) ≤ b) := by rw [nz]; exact zLe_i (by omega) (by omega) hb hb2
theorem zLt_t {a b : Int} (h : a < b) (ha : -2147483648 ≤ a) (ha2 : a < 2147483648) (hb : -2147483648 ≤ b) (hb2 : b < 2147483648) : (zI a < zI b) = True := eq_true ((zI_lt ha ha2 hb hb2).mpr h)
theorem zLt_f {a b : Int} (h : b ≤ a) (ha : -2147483648 ≤ a) (ha2 : a < 2147483648) (hb : -2147483648 ≤ b) (hb2 : b < 2147483648) : (zI a < zI b) = False := eq_false (fun c => absurd ((zI_lt ha ha2 hb hb2).mp c) (by omega))
theorem zLt_i {a b : Int} (ha : -2147483648 ≤ a) (ha2 : a < 2147483648) (hb : -2147483648 ≤ b) (hb2 : b < 2147483648) : (zI a < zI b) = (a < b) := propext (zI_lt ha ha2 hb hb2)
theorem znLt_t {a : Int} {b : Nat} (h : a < b) (ha : -2147483648 ≤ a) (ha2 : a < 2147483648) (hb : b < 2147483648) : (zI a < nI b) = True := by rw [nz]; exact zLt_t h ha ha2 (by omega) (by omega)
theorem znLt_f {a : Int} {b : Nat} (h : b ≤ a) (ha : -2147483648 ≤ a) (ha2 : a < 2147483648) (hb : b < 2147483648) : (zI a < nI b) = False := by rw [nz]; exact zLt_f h ha ha2 (by omega) (by omega)
theorem znLt_i {a : Int} {b : Nat} (ha : -2147483648 ≤ a) (ha2 : a < 2147483648) (hb : b < 2147483648) : (zI a < nI b) = (a < (b : Int)) := by rw [nz]; exact zLt_i ha ha2 (by omega) (by omega)
theorem nzLt_t {a : Nat} {b : Int} (h : a < b) (ha : a < 2147483648) (hb : -2147483648 ≤ b) (hb2 : b < 2147483648) : (nI a < zI b) = True := by rw [nz]; exact zLt_t h (by omega) (by omega) hb hb2
theorem nzLt_f {a : Nat} {b : Int} (h : b ≤ a) (ha : a < 2147483648) (hb : -2147483648 ≤ b) (hb2 : b < 2147483648) : (nI a < zI b) = False := by rw [nz]; exact zLt_f h (by omega) (by omega) hb hb2
theorem nzLt_i {a : Nat} {b : Int} (ha : a < 2147483648) (hb : -2147483648 ≤ b) (hb2 : b < 2147483648) : (nI a < zI b) = ((a : Int) < b) := by rw [nz]; exact zLt_i (by omega) (by omega) hb hb2
theorem zEq_t {a b : Int} (h : a = b) (ha : -2147483648 ≤ a) (ha2 : a < 2147483648) (hb : -2147483648 ≤ b) (hb2 : b < 2147483648) : (zI a = zI b) = True := eq_true ((zI_eq ha ha2 hb hb2).mpr h)
theorem zEq_f {a b : Int} (h : a ≠ b) (ha : -2147483648 ≤ a) (ha2 : a < 2147483648) (hb : -2147483648 ≤ b) (hb2 : b < 2147483648) : (zI a = zI b) = False := eq_false (fun c => absurd ((zI_eq ha ha2 hb hb2).mp c) (by omega))
theorem zEq_i {a b : Int} (ha : -2147483648 ≤ a) (ha2 : a < 2147483648) (hb : -2147483648 ≤ b) (hb2 : b < 2147483648) : (zI a = zI b) = (a = b) := propext (zI_eq ha ha2 hb hb2)
theorem znEq_t {a : Int} {b : Nat} (h : a = b) (ha : -2147483648 ≤ a) (ha2 : a < 2147483648) (hb : b < 2147483648) : (zI a = nI b) = True := by rw [nz]; exact zEq_t h ha ha2 (by omega) (by omega)
theorem znEq_f {a : Int} {b : Nat} (h : a ≠ b) (ha : -2147483648 ≤ a) (ha2 : a < 2147483648) (hb : b < 2147483648) : (zI a = nI b) = False := by rw [nz]; exact zEq_f h ha ha2 (by omega) (by omega)
theorem znEq_i {a : Int} {b : Nat} (ha : -2147483648 ≤ a) (ha2 : a < 2147483648) (hb : b < 2147483648) : (zI a = nI b) = (a = (b : Int)) := by rw [nz]; exact zEq_i ha ha2 (by omega) (by omega)
theorem nzEq_t {a : Nat} {b : Int} (h : a = b) (ha : a < 2147483648) (hb : -2147483648 ≤ b) (hb2 : b < 2147483648) : (nI a = zI b) = True := by rw [nz]; exact zEq_t h (by omega) (by omega) hb hb2
theorem nzEq_f {a : Nat} {b : Int} (h : a ≠ b) (ha : a < 2147483648) (hb : -2147483648 ≤ b) (hb2 : b < 2147483648) : (nI a = zI b) = False := by rw [nz]; exact zEq_f h (by omega) (by omega) hb hb2
theorem nzEq_i {a : Nat} {b : Int} (ha : a < 2147483648) (hb : -2147483648 ≤ b) (hb2 : b < 2147483648) : (nI a = zI b) = ((a : Int) = b) := by rw [nz]; exact zEq_i (by omega) (by omega) hb hb2
theorem nDiv {a d : Nat} (ha : a < 2147483648) (h0 : 0 < d) (hd : d < 2147483648) : nI a / nI d = nI (a / d) := pk_div ha h0 hd
theorem nRem {a d : Nat} (ha : a < 2147483648) (h0 : 0 < d) (hd : d < 2147483648) : xrem (nI a) (nI d) = nI (a % d) := pk_rem ha h0 hd
theorem nAm1 {a : Nat} (h : 0 < a) : nI a + zI (-1) = nI (a - 1) := by
  obtain ⟨b, rfl⟩ : ∃ b, a = b + 1 := ⟨a - 1, by omega⟩
  rw [← lm1]
  exact pk_m1 b
theorem bI_z (b : Bool) : (bI b = nI 0) = (b = false) := propext (bI_0 b)
theorem bI_o (b : Bool) : (bI b = nI 1) = (b = true) := by cases b <;> decide
theorem ite_b1 (b : Bool) : (if b = true then nI 1 else nI 0) = bI b := by cases b <;> rfl
theorem xu_s {α : Type} {f : Nat → Nat → α} {a k : Nat} {v : α} : xu f a k v a k = v := by rw [xu_at, if_pos rfl]
theorem xu_r {α : Type} {f : Nat → Nat → α} {a k b : Nat} {v : α} (h : b ≠ a) : xu f a k v b = f b := xu_ne h
theorem xu_c {α : Type} {f : Nat → Nat → α} {a k b j : Nat} {v : α} (h : j ≠ k) : xu f a k v b j = f b j := xu_off (Or.inr h)
theorem xrow_r {α : Type} {f : Nat → Nat → α} {a b : Nat} {g : Nat → α} (h : b ≠ a) : xrow f a g b = f b := xrow_ne h
theorem ite_b0 (b : Bool) : (if b = false then nI 0 else nI 1) = bI b := by cases b <;> rfl
theorem bft (b : Bool) : (b = false ∨ b = true) = True := by cases b <;> decide

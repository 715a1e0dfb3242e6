/-! Tallies and owners of things, as the class has them. -/
abbrev aT : Type := (Nat → List Nat) × (Nat → Nat) × Nat × Nat
/-- the class's state at place a is A: coats, purses, hour, bare things -/
def cA (I : Nat → Nat → Int32) (L : Nat → Nat → Int64) (a : Nat) (S : sT) (A : aT) : Prop :=
  (∀ c, c < sCe S → L (a + 1) c = lN (enc (A.1 c))) ∧ (∀ q, q < sPa S → I (a + 2) q = nI (A.2.1 q)) ∧ I a 2 = nI A.2.2.1 ∧ I a 3 = nI A.2.2.2
def okA (S : sT) (A : aT) : Prop :=
  (∀ c, c < sCe S → okC (A.1 c) ∧ ∀ x ∈ A.1 c, x % 4 < sPa S) ∧ (∀ q, q < sPa S → A.2.1 q ≤ 999) ∧ A.2.2.2 < 16 ∧ ∀ t, t < sTh S → A.2.2.2.testBit t = true → ∀ c, sFi S t ≤ c → c < sFi S (t + 1) → A.1 c = []
def ownA (S : sT) (A : aT) (c : Nat) : Int := ownL (sSuit S) (sDry S) (A.1 c) A.2.2.1
theorem ownL_rng (suit dry n : Nat) : ∀ (l : List Nat) (hr : Nat), (∀ x ∈ l, x % 4 < n) → ownL suit dry l hr = -1 ∨ ∃ q : Nat, q < n ∧ ownL suit dry l hr = q
  | [], _, _ => Or.inl rfl
  | c :: l, hr, h => by
    rw [ownL]
    cases wetL dry (c :: l) hr with
    | true =>
      rw [if_pos rfl]
      by_cases hs : suit = 0
      · rw [if_pos hs]; exact ownL_rng suit dry n l hr (fun x hx => h x (List.mem_cons_of_mem _ hx))
      · rw [if_neg hs]; exact Or.inl rfl
    | false => rw [if_neg (by decide)]; exact Or.inr ⟨_, h c List.mem_cons_self, rfl⟩
def one16 (o : Int) : Nat := if o < 0 then 0 else 16 ^ o.toNat
theorem oneFor_ok {o : Int} (h : o = -1 ∨ ∃ q : Nat, q < 4 ∧ o = q) : mX7_oneFor (zI o) = some (nI (one16 o)) := by
  rcases h with rfl | ⟨q, hq, rfl⟩
  · decide +kernel
  · rcases (show q = 0 ∨ q = 1 ∨ q = 2 ∨ q = 3 by omega) with rfl | rfl | rfl | rfl <;> decide +kernel
def cntF (own : Nat → Int) (q : Nat) : Nat → Nat → Nat
  | 0, _ => 0
  | n + 1, k => (if own k = q then 1 else 0) + cntF own q n (k + 1)
def talF (own : Nat → Int) : Nat → Nat → Nat
  | 0, _ => 0
  | n + 1, k => one16 (own k) + talF own n (k + 1)
theorem cntF_le (own : Nat → Int) (q : Nat) : ∀ n k, cntF own q n k ≤ n
  | 0, _ => Nat.le_refl 0
  | n + 1, k => by
    have := cntF_le own q n (k + 1)
    rw [cntF]
    split <;> omega
theorem talF_cnt {own : Nat → Int} : ∀ (n k : Nat), (∀ j, k ≤ j → j < k + n → own j = -1 ∨ ∃ q : Nat, q < 4 ∧ own j = q) → talF own n k = cntF own 0 n k + 16 * cntF own 1 n k + 256 * cntF own 2 n k + 4096 * cntF own 3 n k
  | 0, _, _ => rfl
  | n + 1, k, h => by
    have ih := talF_cnt n (k + 1) (fun j h1 h2 => h j (by omega) (by omega))
    rw [talF, cntF, cntF, cntF, cntF, ih]
    rcases h k (by omega) (by omega) with e | ⟨q, hq, e⟩
    · rw [e]; simp [one16]
    · rw [e]
      rcases (show q = 0 ∨ q = 1 ∨ q = 2 ∨ q = 3 by omega) with rfl | rfl | rfl | rfl <;> simp [one16] <;> omega
theorem countOf_ok {T q : Nat} (hT : T < 2 ^ 31) (hq : q < 4) : mX7_countOf (nI T) (nI q) = some (nI (T / 16 ^ q % 16)) := by
  unfold mX7_countOf
  congr 1
  have e : xshr (nI T) (nI q * 4) = nI (T / 16 ^ q) := by
    rcases (show q = 0 ∨ q = 1 ∨ q = 2 ∨ q = 3 by omega) with rfl | rfl | rfl | rfl
    · exact pk_shrN hT _ 0 (by decide +kernel)
    · exact pk_shrN hT _ 4 (by decide +kernel)
    · exact pk_shrN hT _ 8 (by decide +kernel)
    · exact pk_shrN hT _ 12 (by decide +kernel)
  rw [e]
  exact pk_andN (by have := Nat.div_le_self T (16 ^ q); omega) 4 (by decide +kernel)
def obF (cnt : Nat → Nat) : Nat → Nat → Int → Nat → Int × Nat
  | 0, _, b, m => (b, m)
  | n + 1, q, b, m => if m < cnt q then obF cnt n (q + 1) q (cnt q) else if cnt q = m then obF cnt n (q + 1) (-1) m else obF cnt n (q + 1) b m
def ownC (cnt : Nat → Nat) (n cells part : Nat) : Int := if (obF cnt n 0 (-1) 0).2 * 100 < part * cells then -1 else (obF cnt n 0 (-1) 0).1
theorem ownerBy_go {e54 : Int32 → Int32 → Int32 → Int32 → Option Int32} {T cells part : Nat} (hT : T < 2 ^ 31) : ∀ (f n q : Nat) (b : Int) (m : Nat), n < f → n + q = 4 → m < 16 → mX7_ownerBy_8 e54 f (nI T) (nI cells) (nI part) (zI b) (nI m) (nI q) = e54 (nI cells) (nI part) (zI (obF (fun q => T / 16 ^ q % 16) n q b m).1) (nI (obF (fun q => T / 16 ^ q % 16) n q b m).2)
  | 0, n, q, b, m, h1, _, _ => absurd h1 (by omega)
  | f + 1, n, q, b, m, h1, h2, hm => by
    rw [mX7_ownerBy_8, li4]
    cases n with
    | zero => rw [if_pos ((nLe (by omega) (by omega)).mpr (by omega))]; rfl
    | succ n =>
      have hc : T / 16 ^ q % 16 < 16 := Nat.mod_lt _ (by decide)
      rw [if_neg (fun c => absurd ((nLe (by omega) (by omega)).mp c) (by omega)), countOf_ok hT (by omega), Option.bind_some, nI_1, obF]
      by_cases q1 : m < T / 16 ^ q % 16
      · rw [if_neg (fun c => absurd ((nLe (by omega) (by omega)).mp c) (by omega)), if_pos q1, nz q, ownerBy_go hT f n (q + 1) _ _ (by omega) (by omega) hc]
      · rw [if_pos ((nLe (by omega) (by omega)).mpr (by omega)), if_neg q1]
        by_cases q2 : T / 16 ^ q % 16 = m
        · rw [if_pos (by rw [q2]), if_pos q2, lm1, ownerBy_go hT f n (q + 1) _ _ (by omega) (by omega) hm]
        · rw [if_neg (fun c => q2 ((nEq (by omega) (by omega)).mp c)), if_neg q2, ownerBy_go hT f n (q + 1) _ _ (by omega) (by omega) hm]
theorem obF_lt {cnt : Nat → Nat} {N : Nat} (h : ∀ q, cnt q < N) : ∀ (n q : Nat) (b : Int) (m : Nat), m < N → (obF cnt n q b m).2 < N
  | 0, _, _, _, hm => hm
  | n + 1, q, b, m, hm => by
    rw [obF]
    split
    · exact obF_lt h n _ _ _ (h q)
    · split
      · exact obF_lt h n _ _ _ hm
      · exact obF_lt h n _ _ _ hm
theorem ownerBy_ok {T cells part : Nat} (hT : T < 2 ^ 31) (h1 : cells < 1000) (h2 : part < 1000) : mX7_ownerBy (nI T) (nI cells) (nI part) = some (zI (ownC (fun q => T / 16 ^ q % 16) 4 cells part)) := by
  unfold mX7_ownerBy ownC
  have hb := obF_lt (cnt := fun q => T / 16 ^ q % 16) (N := 16) (fun q => Nat.mod_lt _ (by decide)) 4 0 (-1) 0 (by decide)
  have hm : part * cells ≤ 1000 * 1000 := Nat.mul_le_mul (by omega) (by omega)
  rw [lm1, show (0 : Int32) = nI 0 from rfl, ownerBy_go hT xf 4 0 (-1) 0 (by unfold xf; omega) (by omega) (by omega)]
  generalize obF (fun q => T / 16 ^ q % 16) 4 0 (-1) 0 = r at hb ⊢
  show (if nI r.2 * 100 < nI part * nI cells then _ else _) = _
  rw [li100, nMul, nMul]
  by_cases q : r.2 * 100 < part * cells
  · rw [if_pos ((nLt (by omega) (by omega)).mpr q), if_pos q]
  · rw [if_neg (fun c => q ((nLt (by omega) (by omega)).mp c)), if_neg q]

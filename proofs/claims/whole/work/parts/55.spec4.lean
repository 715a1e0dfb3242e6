/-! Tallies of things over a state of the class. -/
theorem ownA_rng {S : sT} {A : aT} (O : okS S) (hA : okA S A) {c : Nat} (hc : c < sCe S) : ownA S A c = -1 ∨ ∃ q : Nat, q < 4 ∧ ownA S A c = q := by
  rcases ownL_rng (sSuit S) (sDry S) (sPa S) (A.1 c) A.2.2.1 (hA.1 c hc).2 with h | ⟨q, h1, h2⟩
  · exact Or.inl h
  · exact Or.inr ⟨q, by have := O.1; omega, h2⟩
theorem one16_le {o : Int} (h : o = -1 ∨ ∃ q : Nat, q < 4 ∧ o = q) : one16 o ≤ 4096 := by
  rcases h with rfl | ⟨q, hq, rfl⟩
  · decide
  · rcases (show q = 0 ∨ q = 1 ∨ q = 2 ∨ q = 3 by omega) with rfl | rfl | rfl | rfl <;> decide
theorem tallyOf_go {I : Nat → Nat → Int32} {L : Nat → Nat → Int64} {s a : Nat} {S : sT} {A : aT} (C : cS I s S) (O : okS S) (hC : cA I L a S A) (hA : okA S A) (hh : A.2.2.1 < 100000) {t : Nat} (ht : t < sTh S) : ∀ (f n k T : Nat), n < f → n + k = sFi S (t + 1) → sFi S t ≤ k → T ≤ 4096 * (k - sFi S t) → mX7_tallyOf_14 I L f s a (nI t) (nI T) (nI (sFi S t)) (nI k) = some (nI (T + talF (ownA S A) n k))
  | 0, n, k, T, h1, _, _, _ => absurd h1 (by omega)
  | f + 1, n, k, T, h1, h2, h3, h4 => by
    have o1 := O.1
    have ot := O.2.1.2.2 t ht
    have ct := C.2.1 t ht
    rw [mX7_tallyOf_14, if_pos (nIn (by omega) (by omega)), nIx (by omega), ct.2.1, nAdd]
    cases n with
    | zero => rw [if_pos ((nLe (by omega) (by omega)).mpr (by omega))]; rfl
    | succ n =>
      have hk : k < sCe S := by omega
      rw [if_neg (fun c => absurd ((nLe (by omega) (by omega)).mp c) (by omega)), if_pos (nIn (by omega) (by omega)), nIx (by omega), hC.1 k hk, hC.2.2.1, ownerOf_ok C.1.2.1 (by omega) C.1.2.2.2.2.1 (by omega) (hA.1 k hk).1 hh, Option.bind_some]
      have hr := ownA_rng O hA hk
      have h16 := one16_le hr
      show Option.bind (mX7_oneFor (zI (ownA S A k))) _ = _
      rw [oneFor_ok hr, Option.bind_some, nI_1, nAdd, tallyOf_go C O hC hA hh ht f n (k + 1) _ (by omega) (by omega) (by omega) (by omega), talF, Nat.add_assoc]
theorem tallyOf_ok {I : Nat → Nat → Int32} {L : Nat → Nat → Int64} {s a : Nat} {S : sT} {A : aT} (C : cS I s S) (O : okS S) (hC : cA I L a S A) (hA : okA S A) (hh : A.2.2.1 < 100000) {t : Nat} (ht : t < sTh S) : mX7_tallyOf I L s a (nI t) = some (nI (talF (ownA S A) (sFi S (t + 1) - sFi S t) (sFi S t))) := by
  have o1 := O.1
  have ot := O.2.1.2.2 t ht
  have ct := C.2.1 t ht
  unfold mX7_tallyOf
  rw [if_pos (nIn (by omega) (by omega)), nIx (by omega), ct.1, show (0 : Int32) = nI 0 from rfl, tallyOf_go C O hC hA hh ht xf (sFi S (t + 1) - sFi S t) (sFi S t) 0 (by unfold xf; omega) (by omega) (by omega) (by omega), Nat.zero_add]
/-- how many cells of a thing each owns -/
def cntT (S : sT) (A : aT) (t q : Nat) : Nat := cntF (ownA S A) q (sFi S (t + 1) - sFi S t) (sFi S t)
theorem talF_at {own : Nat → Int} {n k : Nat} (hn : n ≤ 6) (h : ∀ j, k ≤ j → j < k + n → own j = -1 ∨ ∃ q : Nat, q < 4 ∧ own j = q) {q : Nat} (hq : q < 4) : talF own n k / 16 ^ q % 16 = cntF own q n k := by
  rw [talF_cnt n k h]
  have h0 := cntF_le own 0 n k
  have h1 := cntF_le own 1 n k
  have h2 := cntF_le own 2 n k
  have h3 := cntF_le own 3 n k
  rcases (show q = 0 ∨ q = 1 ∨ q = 2 ∨ q = 3 by omega) with rfl | rfl | rfl | rfl
  · rw [show (16 : Nat) ^ 0 = 1 by decide]; omega
  · rw [show (16 : Nat) ^ 1 = 16 by decide]; omega
  · rw [show (16 : Nat) ^ 2 = 256 by decide]; omega
  · rw [show (16 : Nat) ^ 3 = 4096 by decide]; omega
theorem talF_lt {own : Nat → Int} {n k : Nat} (hn : n ≤ 6) (h : ∀ j, k ≤ j → j < k + n → own j = -1 ∨ ∃ q : Nat, q < 4 ∧ own j = q) : talF own n k < 100000 := by
  rw [talF_cnt n k h]
  have h0 := cntF_le own 0 n k
  have h1 := cntF_le own 1 n k
  have h2 := cntF_le own 2 n k
  have h3 := cntF_le own 3 n k
  omega
theorem obF_congr {c1 c2 : Nat → Nat} {N : Nat} (h : ∀ q, q < N → c1 q = c2 q) : ∀ (n q : Nat) (b : Int) (m : Nat), n + q ≤ N → obF c1 n q b m = obF c2 n q b m
  | 0, _, _, _, _ => rfl
  | n + 1, q, b, m, hN => by
    rw [obF, obF, h q (by omega), obF_congr h n (q + 1) _ _ (by omega), obF_congr h n (q + 1) _ _ (by omega), obF_congr h n (q + 1) _ _ (by omega)]
theorem ownC_congr {c1 c2 : Nat → Nat} {n : Nat} (h : ∀ q, q < n → c1 q = c2 q) (cells part : Nat) : ownC c1 n cells part = ownC c2 n cells part := by
  unfold ownC
  rw [obF_congr h n 0 _ _ (by omega)]
/-- who owns a thing, by a part of a hundred -/
def ownT (S : sT) (A : aT) (t part : Nat) : Int := ownC (cntT S A t) 4 (sFi S (t + 1) - sFi S t) part
theorem thing_rng {S : sT} {A : aT} (O : okS S) (hA : okA S A) {t : Nat} (ht : t < sTh S) : ∀ j, sFi S t ≤ j → j < sFi S t + (sFi S (t + 1) - sFi S t) → ownA S A j = -1 ∨ ∃ q : Nat, q < 4 ∧ ownA S A j = q := fun j h1 h2 => ownA_rng O hA (by have ot := O.2.1.2.2 t ht; omega)
theorem ownerByT_ok {S : sT} {A : aT} (O : okS S) (hA : okA S A) {t : Nat} (ht : t < sTh S) {part : Nat} (hp : part < 1000) : mX7_ownerBy (nI (talF (ownA S A) (sFi S (t + 1) - sFi S t) (sFi S t))) (nI (sFi S (t + 1) - sFi S t)) (nI part) = some (zI (ownT S A t part)) := by
  have ot := O.2.1.2.2 t ht
  have hr := thing_rng O hA ht
  have hl := talF_lt (by omega) hr
  rw [ownerBy_ok (by omega) (by omega) hp]
  congr 2
  exact ownC_congr (fun q hq => talF_at (by omega) hr hq) _ _
theorem ownerOfThing_ok {I : Nat → Nat → Int32} {L : Nat → Nat → Int64} {s a : Nat} {S : sT} {A : aT} (C : cS I s S) (O : okS S) (hC : cA I L a S A) (hA : okA S A) (hh : A.2.2.1 < 100000) {t : Nat} (ht : t < sTh S) : mX7_ownerOfThing I L s a (nI t) = some (zI (ownT S A t (sPart S))) := by
  have o1 := O.1
  have ct := C.2.1 t ht
  unfold mX7_ownerOfThing
  rw [tallyOf_ok C O hC hA hh ht, Option.bind_some, if_pos (nIn (by omega) (by omega)), nIx (by omega), ct.2.1, C.1.2.2.1, ownerByT_ok O hA ht (by omega), Option.bind_some]

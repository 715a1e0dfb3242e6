/-! Things: which a cell is of, bare ones; the reference's counts and owners. -/
theorem hasB : ∀ b, b < 64 → ∀ t, t < 6 → ((((xshr (nI b) (nI t)) &&& (1 : Int32)) = 1) ↔ b.testBit t = true) := by decide +kernel
theorem rHas_ok {b t : Nat} (hb : b < 64) (ht : t < 6) : mX12_has (nI b) (nI t) = some (bI (b.testBit t)) := by
  unfold mX12_has
  have e := hasB b hb t ht
  cases h : b.testBit t with
  | true => rw [if_pos (e.mpr h)]; rfl
  | false => rw [if_neg (fun c => absurd (e.mp c) (by rw [h]; decide))]; rfl
theorem isBare6_ok {I : Nat → Nat → Int32} {a b t : Nat} (e : I a 3 = nI b) (hb : b < 64) (ht : t < 6) : mX6_isBare I a (nI t) = some (bI (b.testBit t)) := by
  unfold mX6_isBare
  rw [e]
  exact rHas_ok hb ht
theorem isBare11_ok {I : Nat → Nat → Int32} {b t : Nat} (e : I 24 3 = nI b) (hb : b < 64) (ht : t < 6) : mX11_isBare I (nI t) = some (bI (b.testBit t)) := by
  unfold mX11_isBare
  rw [isBare6_ok e hb ht, Option.bind_some, if_pos (bI_or _)]
theorem rIsBare_ok {I : Nat → Nat → Int32} {b t : Nat} (e : I 124 8 = nI b) (hb : b < 64) (ht : t < 6) : mX12_isBare I (nI t) = some (bI (b.testBit t)) := by
  unfold mX12_isBare
  rw [e, rHas_ok hb ht, Option.bind_some, if_pos (bI_or _)]
def thF (S : sT) (c : Nat) : Nat → Nat → Nat
  | 0, t => t
  | n + 1, t => if c < sFi S (t + 1) then t else thF S c n (t + 1)
def thOf (S : sT) (c : Nat) : Nat := thF S c (sTh S) 0
theorem thF_ok {S : sT} (O : okS S) {c : Nat} (hc : c < sCe S) : ∀ (n t : Nat), n + t = sTh S → sFi S t ≤ c → thF S c n t < sTh S ∧ sFi S (thF S c n t) ≤ c ∧ c < sFi S (thF S c n t + 1)
  | 0, t, h1, h2 => by
    have : t = sTh S := by omega
    subst this
    have := O.2.1.2.1
    omega
  | n + 1, t, h1, h2 => by
    rw [thF]
    by_cases q : c < sFi S (t + 1)
    · rw [if_pos q]; exact ⟨by omega, h2, q⟩
    · rw [if_neg q]; exact thF_ok O hc n (t + 1) (by omega) (by omega)
theorem thOf_ok {S : sT} (O : okS S) {c : Nat} (hc : c < sCe S) : thOf S c < sTh S ∧ sFi S (thOf S c) ≤ c ∧ c < sFi S (thOf S c + 1) := thF_ok O hc (sTh S) 0 (by omega) (by rw [O.2.1.1]; omega)
theorem sFi_mono {S : sT} (O : okS S) : ∀ (n t : Nat), t + n ≤ sTh S → sFi S t ≤ sFi S (t + n)
  | 0, t, _ => Nat.le_refl _
  | n + 1, t, h => by
    have := sFi_mono O n t (by omega)
    have h2 := O.2.1.2.2 (t + n) (by omega)
    rw [show t + (n + 1) = t + n + 1 by omega]
    omega
theorem thOf_eq {S : sT} (O : okS S) {c t : Nat} (ht : t < sTh S) (h1 : sFi S t ≤ c) (h2 : c < sFi S (t + 1)) : thOf S c = t := by
  have hc : c < sCe S := by have := (O.2.1.2.2 t ht).2.2.1; omega
  obtain ⟨a1, a2, a3⟩ := thOf_ok O hc
  rcases Nat.lt_trichotomy (thOf S c) t with q | q | q
  · have := sFi_mono O (t - (thOf S c + 1)) (thOf S c + 1) (by omega)
    rw [show thOf S c + 1 + (t - (thOf S c + 1)) = t by omega] at this
    omega
  · exact q
  · have := sFi_mono O (thOf S c - (t + 1)) (t + 1) (by omega)
    rw [show t + 1 + (thOf S c - (t + 1)) = thOf S c by omega] at this
    omega
theorem cS_th {I : Nat → Nat → Int32} {s : Nat} {S : sT} (C : cS I s S) (O : okS S) {c : Nat} (hc : c < sCe S) : I (s + 4) c = nI (thOf S c) := by
  obtain ⟨a1, a2, a3⟩ := thOf_ok O hc
  exact (C.2.1 _ a1).2.2.2 c a2 a3
theorem rThingOf_go {I : Nat → Nat → Int32} {S : sT} (R : rSn I S) (O : okS S) {c : Nat} (hc : c < sCe S) : ∀ (f n t : Nat), n < f → n + t = sTh S → sFi S t ≤ c → mX12_thingOf_2 I f (nI c) (nI t) = some (nI (thF S c n t))
  | 0, n, t, h1, _, _ => absurd h1 (by omega)
  | f + 1, n, t, h1, h2, h3 => by
    have o1 := O.1
    cases n with
    | zero =>
      have : t = sTh S := by omega
      subst this
      have := O.2.1.2.1
      omega
    | succ n =>
      have ot := O.2.1.2.2 t (by omega)
      rw [mX12_thingOf_2, li1, nAdd, if_pos (nIn (by omega) (by omega)), nIx (by omega), R.2.1 (t + 1) (by omega), thF]
      by_cases q : c < sFi S (t + 1)
      · rw [if_pos ((nLt (by omega) (by omega)).mpr q), if_pos q]
      · rw [if_neg (fun w => q ((nLt (by omega) (by omega)).mp w)), if_neg q, rThingOf_go R O hc f n (t + 1) (by omega) (by omega) (by omega)]
theorem rThingOf_ok {I : Nat → Nat → Int32} {S : sT} (R : rSn I S) (O : okS S) {c : Nat} (hc : c < sCe S) : mX12_thingOf I (nI c) = some (nI (thOf S c)) := rThingOf_go R O hc xf (sTh S) 0 (by have := O.1; unfold xf; omega) (by omega) (by rw [O.2.1.1]; omega)
theorem rCellsIn_ok {I : Nat → Nat → Int32} {S : sT} (R : rSn I S) (O : okS S) {t : Nat} (ht : t < sTh S) : mX12_cellsIn I (nI t) = some (nI (sFi S (t + 1) - sFi S t)) := by
  have o1 := O.1
  have ot := O.2.1.2.2 t ht
  unfold mX12_cellsIn
  rw [li1, nAdd, if_pos (nIn (by omega) (by omega)), if_pos (nIn (by omega) (by omega)), nIx (by omega), nIx (by omega), R.2.1 (t + 1) (by omega), R.2.1 t (by omega), nSub (by omega)]
theorem xu_row {f : Nat → Nat → Int32} {a k b : Nat} {v : Int32} (h : b ≠ a) : xu f a k v b = f b := xu_ne h
theorem rSn_congr {I J : Nat → Nat → Int32} {S : sT} (h : ∀ a, a ≠ 160 → J a = I a) (R : rSn I S) : rSn J S := by
  unfold rSn
  rw [h 124 (by decide), h 125 (by decide), h 126 (by decide), h 127 (by decide), h 129 (by decide), h 130 (by decide)]
  exact R
theorem rAn_congr {I J : Nat → Nat → Int32} {S : sT} {A : aT} (h : ∀ a, a ≠ 160 → J a = I a) (R : rAn I S A) : rAn J S A := by
  unfold rAn
  rw [h 124 (by decide), h 128 (by decide), h 131 (by decide), h 132 (by decide), h 133 (by decide)]
  exact R
/-- the coats that count: all, or those of hours ahead -/
def seenL (ah : Bool) (l : List Nat) (hr : Nat) : List Nat := if ah then aheadL l hr else l
theorem rLayers_go {e86 : (Nat → Nat → Int32) → Int32 → Int32 → Int32 → Int32 → Int32 → Option (Nat → Nat → Int32)} {I : Nat → Nat → Int32} {a1 : Int32} {hr c : Nat} (hh : hr < 100000) (hc : c < 16) : ∀ (f : Nat) (l : List Nat), l.length < f → okC l → rowB l (fun i => I 132 (5 * c + i)) (fun i => I 133 (5 * c + i)) → mX12_countsCells_53 e86 f I a1 (nI hr) 1 (nI c) (nI l.length) = e86 I a1 (nI hr) 1 (nI c) (nI (aheadL l hr).length)
  | 0, l, h1, _, _ => absurd h1 (by omega)
  | f + 1, [], h1, _, _ => by
    rw [mX12_countsCells_53, if_neg (by decide), if_pos (by decide)]
    rfl
  | f + 1, x :: l, h1, h2, h3 => by
    obtain ⟨⟨b1, b2⟩, b3⟩ := rowB_cons.mp h3
    have h5 := h2.1
    have hx := h2.2 x List.mem_cons_self
    have hl : okC l := ⟨by simp at h5; omega, fun y hy => h2.2 y (List.mem_cons_of_mem _ hy)⟩
    simp only [List.length_cons] at h1 h5 ⊢
    rw [mX12_countsCells_53, if_neg (by decide), show (0 : Int32) = nI 0 from rfl, if_neg (fun q => absurd ((nLe (by omega) (by omega)).mp q) (by omega)), li5, nMul, nAdd]
    rw [show nI (5 * c + (l.length + 1)) - 1 = nI (5 * c + l.length) by rw [li1, nSub (by omega)]; rfl, if_pos (nIn (by omega) (by omega)), nIx (by omega), b2, nz hr, aheadL, m1Add]
    have e : zI (((x / 4 : Nat) : Int) - 2) < zI (hr : Int) ↔ ¬ hr + 2 ≤ x / 4 := by
      rw [zI_lt (by omega) (by omega) (by omega) (by omega)]
      omega
    by_cases q : hr + 2 ≤ x / 4
    · rw [if_neg (fun w => (e.mp w) q), if_pos q, ← nz hr, rLayers_go hh hc f l (by omega) hl b3]
    · rw [if_pos (e.mpr q), if_neg q]
      rfl
theorem rowB_ahead {b w : Nat → Int32} {hr : Nat} : ∀ {l : List Nat}, rowB l b w → rowB (aheadL l hr) b w
  | [], h => h
  | x :: l, h => by
    rw [aheadL]
    by_cases q : hr + 2 ≤ x / 4
    · rw [if_pos q]; exact rowB_ahead (rowB_cons.mp h).2
    · rw [if_neg q]; exact h

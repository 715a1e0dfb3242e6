/-! The reference's street and state; what it reads of them. -/
def rS (sc fi re co rf rt : Nat → Int32) (S : sT) : Prop := (∀ i, i < 8 → sc i = nI (S.1 i)) ∧ (∀ t, t ≤ sTh S → fi t = nI (sFi S t)) ∧ (∀ t, t < sTh S → re t = nI (sRe S t)) ∧ (∀ q, q < sPa S → co q = nI (sCo S q)) ∧ ∀ k, k < sRa S → rf k = nI (sRf S k) ∧ rt k = nI (sRt S k)
def rA (sc pu ma b w : Nat → Int32) (S : sT) (A : aT) : Prop := sc 8 = nI A.2.2.2 ∧ sc 9 = nI A.2.2.1 ∧ (∀ q, q < sPa S → pu q = nI (A.2.1 q)) ∧ ∀ c, c < sCe S → ma c = nI (A.1 c).length ∧ rowB (A.1 c) (fun i => b (5 * c + i)) (fun i => w (5 * c + i))
abbrev rSn (I : Nat → Nat → Int32) (S : sT) : Prop := rS (I 124) (I 125) (I 126) (I 127) (I 129) (I 130) S
abbrev rAn (I : Nat → Nat → Int32) (S : sT) (A : aT) : Prop := rA (I 124) (I 128) (I 131) (I 132) (I 133) S A
theorem rSn_dry {I : Nat → Nat → Int32} {S : sT} (R : rSn I S) : I 124 0 = nI (sDry S) := R.1 0 (by decide)
theorem rSn_part {I : Nat → Nat → Int32} {S : sT} (R : rSn I S) : I 124 1 = nI (sPart S) := R.1 1 (by decide)
theorem rSn_cost {I : Nat → Nat → Int32} {S : sT} (R : rSn I S) : I 124 2 = nI (sCost S) := R.1 2 (by decide)
theorem rSn_th {I : Nat → Nat → Int32} {S : sT} (R : rSn I S) : I 124 3 = nI (sTh S) := R.1 3 (by decide)
theorem rSn_ce {I : Nat → Nat → Int32} {S : sT} (R : rSn I S) : I 124 4 = nI (sCe S) := R.1 4 (by decide)
theorem rSn_pa {I : Nat → Nat → Int32} {S : sT} (R : rSn I S) : I 124 5 = nI (sPa S) := R.1 5 (by decide)
theorem rSn_suit {I : Nat → Nat → Int32} {S : sT} (R : rSn I S) : I 124 6 = nI (sSuit S) := R.1 6 (by decide)
theorem rSn_ra {I : Nat → Nat → Int32} {S : sT} (R : rSn I S) : I 124 7 = nI (sRa S) := R.1 7 (by decide)
theorem rOwnerBy_ok {I : Nat → Nat → Int32} {S : sT} (R : rSn I S) (O : okS S) {c : Nat} (hc : c < 16) {hr : Nat} (hh : hr < 100000) {l : List Nat} (hl : okC l) (hb : rowB l (fun i => I 132 (5 * c + i)) (fun i => I 133 (5 * c + i))) {j : Nat} (hj : j = l.length) : mX12_ownerBy I (nI c) (nI j) (nI hr) = some (zI (ownL (sSuit S) (sDry S) l hr)) := by
  have o1 := O.1
  have h5 := hl.1
  subst hj
  unfold mX12_ownerBy
  rw [li5, li1, nMul, nAdd, nSubZ]
  exact rOwnerBy_go (rSn_dry R) (by omega) (rSn_suit R) (by omega) hc hh xf l (by unfold xf; omega) hl hb
theorem rOwnerOf_ok {I : Nat → Nat → Int32} {S : sT} {A : aT} (R : rSn I S) (O : okS S) (RA : rAn I S A) (hA : okA S A) (hh : A.2.2.1 < 100000) {c : Nat} (hc : c < sCe S) : mX12_ownerOf I (nI c) = some (zI (ownA S A c)) := by
  have o1 := O.1
  have r := RA.2.2.2 c hc
  unfold mX12_ownerOf
  rw [if_pos (nIn (by omega) (by omega)), nIx (by omega), r.1, RA.2.1, rOwnerBy_ok R O (by omega) hh (hA.1 c hc).1 r.2 rfl, Option.bind_some]
  rfl
theorem rIsTopWet_ok {I : Nat → Nat → Int32} {S : sT} {A : aT} (R : rSn I S) (O : okS S) (RA : rAn I S A) (hA : okA S A) (hh : A.2.2.1 < 100000) {c : Nat} (hc : c < sCe S) : mX12_isTopWet I (nI c) = some (bI (wetL (sDry S) (A.1 c) A.2.2.1)) := by
  have o1 := O.1
  have r := RA.2.2.2 c hc
  have ha := (hA.1 c hc).1
  unfold mX12_isTopWet
  rw [if_pos (nIn (by omega) (by omega)), nIx (by omega), r.1, RA.2.1, if_pos (nIn (by omega) (by omega)), show (0 : Int32) = nI 0 from rfl]
  cases e : A.1 c with
  | nil => rw [if_pos ((nLe (by decide) (by omega)).mpr (by simp))]; rfl
  | cons x l =>
    rw [e] at r ha
    have h5 := ha.1
    have hx := ha.2 x List.mem_cons_self
    obtain ⟨⟨b1, b2⟩, -⟩ := rowB_cons.mp r.2
    simp only [List.length_cons] at h5 ⊢
    rw [if_neg (fun q => absurd ((nLe (by omega) (by omega)).mp q) (by omega)), li5, li1, nMul, nAdd, nSub (by omega), show 5 * c + (l.length + 1) - 1 = 5 * c + l.length by omega, isWetAt_ok (rSn_dry R) (by omega) (by omega) hx.2 b2 hh l, Option.bind_some]
    cases wetL (sDry S) (x :: l) A.2.2.1 <;> rfl
theorem rTopOf_ok {I : Nat → Nat → Int32} {S : sT} {A : aT} (O : okS S) (RA : rAn I S A) (hA : okA S A) {c : Nat} (hc : c < sCe S) : mX12_topOf I (nI c) = some (zI (topP (A.1 c))) := by
  have o1 := O.1
  have r := RA.2.2.2 c hc
  have ha := (hA.1 c hc).1
  unfold mX12_topOf
  rw [if_pos (nIn (by omega) (by omega)), nIx (by omega), r.1, if_pos (nIn (by omega) (by omega)), show (0 : Int32) = nI 0 from rfl]
  cases e : A.1 c with
  | nil => rw [if_pos (show nI ([] : List Nat).length = nI 0 from rfl)]; rfl
  | cons x l =>
    rw [e] at r ha
    have h5 := ha.1
    obtain ⟨⟨b1, b2⟩, -⟩ := rowB_cons.mp r.2
    simp only [List.length_cons] at h5 ⊢
    rw [if_neg (fun q => absurd ((nEq (by omega) (by omega)).mp q) (by omega)), li5, li1, nMul, nAdd, nSub (by omega), show 5 * c + (l.length + 1) - 1 = 5 * c + l.length by omega, if_pos (nIn (by omega) (by omega)), nIx (by omega), topP, zI_nat]
    exact congrArg some b1

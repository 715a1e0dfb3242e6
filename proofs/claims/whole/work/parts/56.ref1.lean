/-! The reference's rows: coats, wet ones, owners. -/
def rowB (l : List Nat) (b w : Nat → Int32) : Prop := ∀ i x, l.reverse[i]? = some x → b i = nI (x % 4) ∧ w i = zI ((x / 4 : Nat) - 2)
theorem rowB_cons {c : Nat} {r : List Nat} {b w : Nat → Int32} : rowB (c :: r) b w ↔ (b r.length = nI (c % 4) ∧ w r.length = zI ((c / 4 : Nat) - 2)) ∧ rowB r b w := by
  unfold rowB
  rw [List.reverse_cons]
  constructor
  · intro h
    refine ⟨h r.length c (by simp), fun i x hx => h i x ?_⟩
    rw [List.getElem?_append_left (List.getElem?_eq_some_iff.mp hx).1]
    exact hx
  · rintro ⟨h1, h2⟩ i x hx
    rcases Nat.lt_or_ge i r.length with q | q
    · rw [List.getElem?_append_left (by simpa using q)] at hx
      exact h2 i x hx
    · have hi : i < r.length + 1 := by
        have := (List.getElem?_eq_some_iff.mp hx).1
        simpa using this
      have : i = r.length := by omega
      subst this
      simp at hx
      subst hx
      exact h1
theorem rowB_nil {b w : Nat → Int32} : rowB [] b w := fun i x h => by simp at h
theorem rowB_drop {b w : Nat → Int32} : ∀ (k : Nat) {l : List Nat}, rowB l b w → rowB (l.drop k) b w
  | 0, _, h => h
  | k + 1, [], h => h
  | k + 1, c :: l, h => rowB_drop k (rowB_cons.mp h).2
theorem isWetAt_ok {I : Nat → Nat → Int32} {dry : Nat} (hd : I 124 0 = nI dry) (hd2 : dry < 100) {k x : Nat} (hk : k < 80) (hx : x < 4096) (hw : I 133 k = zI ((x / 4 : Nat) - 2)) {hr : Nat} (hh : hr < 100000) (l : List Nat) : mX12_isWetAt I (nI k) (nI hr) = some (bI (wetL dry (x :: l) hr)) := by
  unfold mX12_isWetAt
  rw [if_pos (nIn hk (by omega)), nIx (by omega), hw, if_pos (nIn hk (by omega)), hd, lm1, nz dry, zI_add, nz hr]
  have e1 : zI (((x / 4 : Nat) : Int) - 2) = zI (-1) ↔ x / 4 = 1 := by
    rw [zI_eq (by omega) (by omega) (by omega) (by omega)]
    omega
  have e2 : zI (((x / 4 : Nat) : Int) - 2 + (dry : Int)) ≤ zI (hr : Int) ↔ ¬ hr + 2 < x / 4 + dry := by
    rw [zI_le (by omega) (by omega) (by omega) (by omega)]
    omega
  by_cases q1 : x / 4 = 1
  · rw [if_pos (e1.mpr q1)]
    simp [wetL, q1, bI]
  · rw [if_neg (fun e => q1 (e1.mp e))]
    by_cases q2 : hr + 2 < x / 4 + dry
    · rw [if_neg (fun e => (e2.mp e) q2)]
      simp [wetL, q1, q2, bI]
    · rw [if_pos (e2.mpr q2)]
      simp [wetL, q1, q2, bI]
theorem m1Add (a : Nat) : nI (a + 1) + (-1) = nI a := pk_m1 a
theorem rOwnerBy_go {I : Nat → Nat → Int32} {dry suit : Nat} (hd : I 124 0 = nI dry) (hd2 : dry < 100) (hs : I 124 6 = nI suit) (hs2 : suit < 2) {c : Nat} (hc : c < 16) {hr : Nat} (hh : hr < 100000) : ∀ (f : Nat) (l : List Nat), l.length < f → okC l → rowB l (fun i => I 132 (5 * c + i)) (fun i => I 133 (5 * c + i)) → mX12_ownerBy_9 I f (nI c) (nI hr) (zI ((5 * c + l.length : Nat) - 1)) = some (zI (ownL suit dry l hr))
  | 0, l, h1, _, _ => absurd h1 (by omega)
  | f + 1, [], h1, h2, h3 => by
    rw [mX12_ownerBy_9, li5, nMul, nz (5 * c), if_pos ((zI_lt (by simp; omega) (by simp; omega) (by omega) (by omega)).mpr (by simp; omega))]
    rfl
  | f + 1, x :: l, h1, h2, h3 => by
    obtain ⟨⟨b1, b2⟩, b3⟩ := rowB_cons.mp h3
    have h5 := h2.1
    have hx := h2.2 x List.mem_cons_self
    have hl : okC l := ⟨by simp at h5; omega, fun y hy => h2.2 y (List.mem_cons_of_mem _ hy)⟩
    simp only [List.length_cons] at h1 h5
    have e : zI (((5 * c + (x :: l).length : Nat) : Int) - 1) = nI (5 * c + l.length) := by
      rw [nz]
      congr 1
      simp only [List.length_cons]
      omega
    have e2 : nI (5 * c + l.length) + (-1) = zI (((5 * c + l.length : Nat) : Int) - 1) := by
      rw [nz, lm1, zI_add]
      rfl
    rw [e, mX12_ownerBy_9, li5, nMul, if_neg (fun q => absurd ((nLt (by omega) (by omega)).mp q) (by omega)), isWetAt_ok hd hd2 (by omega) hx.2 b2 hh l, Option.bind_some, if_pos (nIn (by omega) (by omega)), nIx (by omega), hs, e2, rOwnerBy_go hd hd2 hs hs2 hc hh f l (by omega) hl b3, ownL]
    cases hw : wetL dry (x :: l) hr with
    | false =>
      rw [if_pos ((bI_0 _).mpr rfl), if_neg (by decide), zI_nat]
      exact congrArg some b1
    | true =>
      rw [if_neg ((bI_ne _).mpr rfl), if_pos rfl]
      rcases (show suit = 0 ∨ suit = 1 by omega) with rfl | rfl
      · rw [if_neg (by decide), if_pos rfl]
      · rw [if_pos (by decide), if_neg (by decide)]; rfl

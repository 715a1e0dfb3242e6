/-! image. -/
section
variable {n n' w i : Nat} {K K' : Nat → Nat × Nat} {P P' : Nat → Nat → Nat} {I I' : Nat → Nat → Int32} {L L' : Nat → Nat → Int64} {Z : zT} {k : Nat}
theorem cW_P {v : Nat} {W : wT} (h0 : P' v 0 = P v 0) (h15 : P' (v + 15) = P (v + 15)) (C : cW P I L v W) : cW P' I L v W := by
  unfold cW at C ⊢
  rw [h0, h15]
  exact C
theorem cR_K {a : Nat} {ru : ruT} (h : ∀ b, a ≤ b → b ≤ a + 3 → K' b = K b) (C : cR K I a ru) : cR K' I a ru := by
  unfold cR
  rw [h (a + 1) (by omega) (by omega), h (a + 2) (by omega) (by omega), h (a + 3) (by omega) (by omega)]
  exact C
def zIm (Z : zT) (i : Nat) : zT := (zW Z, (fun j => if j = i then some (zW Z) else zM Z j), zR Z, zP Z)
theorem okZ_im {k2 : Nat} (ok : okZ k Z) (h : k ≤ k2) : okZ k2 (zIm Z i) := by
  have o := okZ_mono h ok
  refine ⟨o.1, fun j W hW => ?_, o.2.2⟩
  change (if j = i then some (zW Z) else zM Z j) = some W at hW
  split at hW
  · cases hW; exact o.1
  · exact o.2.1 j W hW
theorem im_fin (hn : 171 ≤ n) (ok : okZ k Z) (C : CI (n, K, P, I, L) Z) (hi : i < 4) (hle : n ≤ n') (hK : ∀ b, b ≤ n → K' b = K b) (hP : ∀ b, b ≤ n → b ≠ 91 → P' b = P b) (h91 : ∀ j, j ≠ i → P' 91 j = P 91 j) (hw : P' 91 i = w) (w1 : 171 < w) (w2 : w + 78 ≤ n') (w15 : ∀ j, j < 20 → P' (w + 15) j = w + 19 + 3 * j) (hI : ∀ b, b ≤ n → I' b = I b ∧ L' b = L b) (hap : ∀ s len, apt n P s len → apt n' P' s len) (hdis : ∀ j, j < 4 → j ≠ i → P 91 j ≠ 0 → P 91 j + 78 < w ∨ w + 78 < P 91 j) : ∃ J M, mX10_copyFrom P' I' L' w 12 = some (xu P' w 0 (P' 12 0), J, M) ∧ CI (n', K', xu P' w 0 (P' 12 0), J, M) (zIm Z i) ∧ ∀ b, b ≤ 171 → J b = I b ∧ M b = L b := by
  obtain ⟨⟨c1, c2⟩, ⟨c3, c4⟩, ⟨c5, c6⟩, ⟨c7, c8⟩, c9, c10⟩ := C
  change cW P I L 12 (zW Z) at c1
  change plZ n P (P 12 0) at c2
  change ∀ j, j < 20 → ∃ i, i < 20 ∧ P 27 j = 31 + 3 * i at c3
  change ∀ i j, i < 20 → j < 20 → P 27 i = P 27 j → i = j at c4
  change ∀ i, i < 4 → cM n P I L i (zM Z i) at c5
  change ∀ i j, i < 4 → j < 4 → i ≠ j → P 91 i ≠ 0 → P 91 j ≠ 0 → P 91 i + 78 < P 91 j ∨ P 91 j + 78 < P 91 i at c6
  change ∀ r ru, (zR Z)[r]? = some ru → cR K I (P 11 r) ru ∧ apt n P (P 11 r) 3 at c8
  have p12 : P' 12 = P 12 := hP 12 (by omega) (by omega)
  have p27 : P' 27 = P 27 := hP 27 (by omega) (by omega)
  have p11 : P' 11 = P 11 := hP 11 (by omega) (by omega)
  have plB : ∀ s, plZ n P s → s + 10 ≤ n ∧ (s = 13 ∨ 171 < s) ∧ (s + 10 < w ∨ w + 78 < s) := fun s hs => by
    rcases hs with e | e
    · omega
    · have a1 := e.1
      have a2 := e.2.1
      have a3 := (hap _ _ e).2.2 i hi (by omega)
      omega
  have b12 := plB _ c2
  have k12 : kp20 P' 12 := ⟨fun j hj => by show ∃ i, i < 20 ∧ P' 27 j = 31 + 3 * i; rw [p27]; exact c3 j hj, fun i j h1 h2 e => by change P' 27 i = P' 27 j at e; rw [p27] at e; exact c4 i j h1 h2 e⟩
  have C12 : cW P' I' L' 12 (zW Z) := by
    refine cW_P (P := P) (by rw [p12]) p27 (cW_congr (fun b hb => hI b (by omega)) (fun j B hB b h1 h2 => hI b ?_) c1)
    have hj := (List.getElem?_eq_some_iff.mp hB).1
    obtain ⟨x, hx, e⟩ := c3 j (by have := ok.1.2.2.2.1.1; omega)
    change b ≤ P 27 j + 2 at h2
    omega
  obtain ⟨J, M, p1, p2, p3, p4⟩ := cpW_ok (w0 := w) (w1 := 12) ok.1 (kp20_of w15) k12 (Or.inr (by omega)) (fun b h1 h2 => by rw [p12] at h1 h2; omega) C12
  have rw' : ∀ b, b ≤ n → b < w ∨ w + 78 < b → J b = I b ∧ M b = L b := fun b h1 h2 => by
    have a := p4 b (by omega) (by omega)
    have c := hI b h1
    exact ⟨a.1.trans c.1, a.2.trans c.2⟩
  have pN : ∀ b, b ≤ n → b ≠ 91 → b ≠ w → xu P' w 0 (P' 12 0) b = P b := fun b h1 h2 h3 => (xu_r h3).trans (hP b h1 h2)
  have p91 : xu P' w 0 (P' 12 0) 91 = P' 91 := xu_r (by omega)
  have hap2 : ∀ s len, apt n P s len → apt n' (xu P' w 0 (P' 12 0)) s len := fun s len h => by
    unfold apt
    rw [p91]
    exact hap s len h
  have hpl2 : ∀ s, plZ n P s → plZ n' (xu P' w 0 (P' 12 0)) s := fun s h => h.imp id (hap2 s 10)
  have cg : ∀ v V, okW k (zR Z).length V → v ≤ n → plZ n P (P v 0) → v + 18 < w ∨ w + 78 < v → v + 18 ≤ n → v ≠ 91 → v + 15 ≠ 91 → (∀ j, j < 20 → ∃ x, P (v + 15) j = x ∧ x + 2 ≤ n ∧ (x + 2 < w ∨ w + 78 < x)) → cW P I L v V → cW (xu P' w 0 (P' 12 0)) J M v V := fun v V okV h1 h2 h3 h4 h5 h6 h7 h8 => by
    have bv := plB _ h2
    refine cW_P (P := P) (by rw [pN v (by omega) h5 (by omega)]) (pN (v + 15) (by omega) h6 (by omega)) (cW_congr (fun b hb => rw' b (by omega) (by omega)) (fun j B hB b q1 q2 => ?_) h8)
    have hj := (List.getElem?_eq_some_iff.mp hB).1
    obtain ⟨x, hx, a1, a2⟩ := h7 j (by have := okV.2.2.2.1.1; omega)
    exact rw' b (by omega) (by omega)
  refine ⟨J, M, p1, ⟨⟨?_, ?_⟩, ⟨fun j hj => ?_, fun a b h1 h2 e => ?_⟩, ⟨fun j hj => ?_, fun a b h1 h2 hab h3 h4 => ?_⟩, ⟨?_, fun r ru hr => ?_⟩, ?_, fun j x hx => ?_⟩, fun b hb => rw' b (by omega) (by omega)⟩
  · refine cg 12 (zW Z) ok.1 (by omega) c2 (by omega) (by omega) (by omega) (by omega) (fun j hj => ?_) c1
    obtain ⟨x, hx, e⟩ := c3 j hj
    exact ⟨_, e, by omega, by omega⟩
  · show plZ n' _ (xu P' w 0 (P' 12 0) 12 0)
    rw [pN 12 (by omega) (by omega) (by omega)]
    exact hpl2 _ c2
  · show ∃ i, i < 20 ∧ xu P' w 0 (P' 12 0) 27 j = 31 + 3 * i
    rw [pN 27 (by omega) (by omega) (by omega)]
    exact c3 j hj
  · change xu P' w 0 (P' 12 0) 27 a = xu P' w 0 (P' 12 0) 27 b at e
    rw [pN 27 (by omega) (by omega) (by omega)] at e
    exact c4 a b h1 h2 e
  · show cM n' (xu P' w 0 (P' 12 0)) J M j (if j = i then some (zW Z) else zM Z j)
    by_cases e : j = i
    · subst e
      rw [if_pos rfl]
      have e91 : xu P' w 0 (P' 12 0) 91 j = w := by rw [p91]; exact hw
      unfold cM
      rw [e91]
      refine ⟨⟨w1, w2⟩, p2, ?_, fun j hj => ?_⟩
      · have z := hpl2 _ c2
        rw [← congrFun p12 0] at z
        rw [xu_s]
        exact z
      · rw [xu_r (by omega)]; exact w15 j hj
    · rw [if_neg e]
      have e91 : xu P' w 0 (P' 12 0) 91 j = P 91 j := by rw [p91]; exact h91 j e
      have hm := c5 j hj
      cases hz : zM Z j with
      | none =>
        rw [hz] at hm
        exact e91.trans hm
      | some V =>
        rw [hz] at hm
        obtain ⟨⟨m1, m2⟩, m3, m4, m5⟩ := hm
        have dj := hdis j hj e (by omega)
        unfold cM
        rw [e91]
        refine ⟨⟨m1, by omega⟩, cg _ V (ok.2.1 j V hz) (by omega) m4 (by omega) (by omega) (by omega) (by omega) (fun x hx => ⟨_, m5 x hx, by omega, by omega⟩) m3, ?_, fun x hx => ?_⟩
        · rw [pN _ (by omega) (by omega) (by omega)]; exact hpl2 _ m4
        · rw [pN _ (by omega) (by omega) (by omega)]; exact m5 x hx
  · change xu P' w 0 (P' 12 0) 91 a ≠ 0 at h3
    change xu P' w 0 (P' 12 0) 91 b ≠ 0 at h4
    show xu P' w 0 (P' 12 0) 91 a + 78 < xu P' w 0 (P' 12 0) 91 b ∨ xu P' w 0 (P' 12 0) 91 b + 78 < xu P' w 0 (P' 12 0) 91 a
    rw [p91] at h3 h4 ⊢
    by_cases ea : a = i
    · subst ea
      rw [h91 b (by omega)] at h4 ⊢
      rw [hw]
      have := hdis b h2 (by omega) h4
      omega
    · by_cases eb : b = i
      · subst eb
        rw [h91 a ea] at h3 ⊢
        rw [hw]
        exact hdis a h1 ea h3
      · rw [h91 a ea] at h3 ⊢
        rw [h91 b eb] at h4 ⊢
        exact c6 a b h1 h2 hab h3 h4
  · exact (congrFun (rw' 1 (by omega) (by omega)).1 5).trans c7
  · obtain ⟨d1, d2⟩ := c8 r ru hr
    have a1 := d2.1
    have a2 := d2.2.1
    have a3 := (hap _ _ d2).2.2 i hi (by omega)
    rw [hw] at a3
    show cR K' J (xu P' w 0 (P' 12 0) 11 r) ru ∧ apt n' (xu P' w 0 (P' 12 0)) (xu P' w 0 (P' 12 0) 11 r) 3
    rw [pN 11 (by omega) (by omega) (by omega)]
    exact ⟨cR_congr (fun b h1 h2 => (rw' b (by omega) (by omega)).1) (cR_K (fun b h1 h2 => hK b (by omega)) d1), hap2 _ _ d2⟩
  · exact (congrFun (rw' 1 (by omega) (by omega)).1 1).trans c9
  · exact (congrFun (rw' 2 (by omega) (by omega)).1 j).trans (c10 j x hx)
end
theorem wloop_IL {kp b : Nat} : ∀ (j : Nat) {h : xH}, b ≤ h.1 → (wloop kp j h).2.2.2.1 b = h.2.2.2.1 b ∧ (wloop kp j h).2.2.2.2 b = h.2.2.2.2 b
  | 0, _, _ => ⟨rfl, rfl⟩
  | j + 1, h, hb => by
    have ih := wloop_IL (kp := kp) j hb
    have e1 : b ≤ (wloop kp j h).1 := by rw [wloop_1]; omega
    rw [wloop]
    generalize wloop kp j h = v at ih e1
    constructor
    · show xz (xz (xz v.2.2.2.1 (v.1 + 1) 0) (v.1 + 1 + 1) 0) (v.1 + 1 + 1 + 1) 0 b = _
      rw [xz_ne (by omega), xz_ne (by omega), xz_ne (by omega)]
      exact ih.1
    · show xz (xz (xz v.2.2.2.2 (v.1 + 1) 0) (v.1 + 1 + 1) 0) (v.1 + 1 + 1 + 1) 0 b = _
      rw [xz_ne (by omega), xz_ne (by omega), xz_ne (by omega)]
      exact ih.2
theorem hWa_IL {h : xH} {b : Nat} (hb : b ≤ h.1) : (hWa h).2.2.2.1 b = h.2.2.2.1 b ∧ (hWa h).2.2.2.2 b = h.2.2.2.2 b := by
  have n0 : b ≠ h.1 + 1 := by omega
  have n2 : b ≠ h.1 + 2 := by omega
  have n3 : b ≠ h.1 + 3 := by omega
  have n4 : b ≠ h.1 + 4 := by omega
  have n5 : b ≠ h.1 + 5 := by omega
  have n6 : b ≠ h.1 + 6 := by omega
  have n7 : b ≠ h.1 + 7 := by omega
  have n8 : b ≠ h.1 + 8 := by omega
  have n9 : b ≠ h.1 + 9 := by omega
  have n10 : b ≠ h.1 + 10 := by omega
  have n11 : b ≠ h.1 + 11 := by omega
  have n12 : b ≠ h.1 + 12 := by omega
  have n13 : b ≠ h.1 + 13 := by omega
  have n14 : b ≠ h.1 + 14 := by omega
  have n15 : b ≠ h.1 + 15 := by omega
  have n16 : b ≠ h.1 + 16 := by omega
  have n17 : b ≠ h.1 + 17 := by omega
  have n18 : b ≠ h.1 + 18 := by omega
  have n19 : b ≠ h.1 + 19 := by omega
  constructor <;> funext k <;> simp [hWa, iX10a, iX7, iX6, pP, pI, xnew, xu, xz, n0, n2, n3, n4, n5, n6, n7, n8, n9, n10, n11, n12, n13, n14, n15, n16, n17, n18, n19]
theorem hWd_IL {h : xH} {b : Nat} (hb : b ≤ h.1) : (hWd h).2.2.2.1 b = h.2.2.2.1 b ∧ (hWd h).2.2.2.2 b = h.2.2.2.2 b := by
  have a := wloop_IL (kp := h.1 + 16) 20 (h := hWa h) (b := b) (by rw [hWa_1]; omega)
  rw [← hWd_eq] at a
  have c := hWa_IL hb
  exact ⟨a.1.trans c.1, a.2.trans c.2⟩
theorem hWd_15 (h : xH) : ∀ j, j < 20 → (hWd h).2.2.1 (h.1 + 16) j = h.1 + 20 + 3 * j := fun j hj => by
  have a := wloop_at (kp := h.1 + 16) 20 (h := hWa h) (by rw [hWa_1]; omega) j hj
  rw [← hWd_eq, hWa_1] at a
  have := a.2.2.2.2.2
  omega
theorem q_image {k : Nat} (hk : k < 512) : st_image (Inv k) (Inv (k + 1)) := by
  intro h x hI
  obtain ⟨n, K, P, I, L⟩ := h
  obtain ⟨⟨G, F⟩, Z, ok, C, R⟩ := id hI
  change RI I Z at R
  have O := okZ_S ok
  have o1 := O.1
  have hA := okZ_A ok
  have hh := okZ_h ok
  have cs := CI_S C
  have ca := CI_A C
  have rs := RI_S R
  have ra := RI_A R
  generalize hS : wS (zW Z) = S at O o1 hA cs ca rs ra
  generalize hAA : wA (zW Z) = A at hA hh ca ra
  have e1 := isWn x 0 3
  have e2 := rInW (lo := 0) (hi := 3) (by decide) (by decide) x
  change mX12_in x.toInt64 (0 : Int64) (3 : Int64) = _ at e2
  rcases wiC (lo := 0) (hi := 3) (by decide) (by decide) x with hx | ⟨i, -, hi, rfl⟩
  · rw [hx] at e1 e2
    refine ⟨-1, (n, K, P, I, L), (n, K, P, I, L), ?_, G, ?_, Inv_q hI (fun _ _ => rfl)⟩
    · unfold oX_image mX11_image; simp (disch := omega) only [↓reduceIte, Option.bind_some, Option.some.injEq, Prod.mk.injEq, and_self, and_true, true_and, eq_self, reduceCtorEq, not_false_eq_true, not_true_eq_false, or_true, true_or, or_false, false_or, bft, nAdd, nMul, nSub, nDiv, nRem, nAm1, nIx, nIn, bI_z, bI_o, ite_b1, ite_b0, zI_add, zI_sub, li0, li1, li2, li3, li4, li5, li6, li7, li8, li9, li10, li11, li12, li13, li14, li15, li16, li17, li18, li19, li20, li21, li22, li23, li24, li25, li26, li27, li28, li29, li30, li31, li32, li33, li34, li35, li36, li37, li40, li42, li43, li45, li47, li48, li57, li59, li60, li61, li62, li64, li80, li91, li93, li97, li99, li100, li122, li182, li199, li255, li300, li380, li400, li999, li1000, li3640, li4100, li65536, li99999, ln1, ln2, ln3, ln100, ln100000, tLe, fLe, tLt, fLt, tEq, fEq, zLe_t, zLe_f, zLt_t, zLt_f, zEq_t, zEq_f, nzLe_t, nzLe_f, znLe_t, znLe_f, nzLt_t, nzLt_f, znLt_t, znLt_f, nzEq_t, nzEq_f, znEq_t, znEq_f, e1]
    · unfold oM_image mX12_image; simp (disch := omega) only [↓reduceIte, Option.bind_some, Option.some.injEq, Prod.mk.injEq, and_self, and_true, true_and, eq_self, reduceCtorEq, not_false_eq_true, not_true_eq_false, or_true, true_or, or_false, false_or, bft, nAdd, nMul, nSub, nDiv, nRem, nAm1, nIx, nIn, bI_z, bI_o, ite_b1, ite_b0, zI_add, zI_sub, li0, li1, li2, li3, li4, li5, li6, li7, li8, li9, li10, li11, li12, li13, li14, li15, li16, li17, li18, li19, li20, li21, li22, li23, li24, li25, li26, li27, li28, li29, li30, li31, li32, li33, li34, li35, li36, li37, li40, li42, li43, li45, li47, li48, li57, li59, li60, li61, li62, li64, li80, li91, li93, li97, li99, li100, li122, li182, li199, li255, li300, li380, li400, li999, li1000, li3640, li4100, li65536, li99999, ln1, ln2, ln3, ln100, ln100000, tLe, fLe, tLt, fLt, tEq, fEq, zLe_t, zLe_f, zLt_t, zLt_f, zEq_t, zEq_f, nzLe_t, nzLe_f, znLe_t, znLe_f, nzLt_t, nzLt_f, znLt_t, znLt_f, nzEq_t, nzEq_f, znEq_t, znEq_f, e2, Option.map_some]
  rw [wiB_t (by omega) hi (by omega)] at e1 e2
  have hn : 171 ≤ n := Fr_le F (g_K171 G) (by decide)
  have hW1 := hWd_1 (n, K, P, I, L)
  have hWK := fun b hb => hWd_K (h := (n, K, P, I, L)) (b := b) hb
  have hWP := fun b hb => hWd_P (h := (n, K, P, I, L)) (b := b) hb
  have hWI := fun b hb => hWd_IL (h := (n, K, P, I, L)) (b := b) hb
  have hW5 := hWd_15 (n, K, P, I, L)
  have gf := gw_im (h := (n, K, P, I, L)) G F i
  obtain ⟨n', K', P', I', L', w, eh, G', F', hle, hK, hP, h91, hw, w1, w2, w15, hIL, hap, hdis⟩ : ∃ n' K' P' I' L' w, hIm (n, K, P, I, L) i = (n', K', P', I', L') ∧ GW K' P' ∧ Fr (n', K', P', I', L') ∧ n ≤ n' ∧ (∀ b, b ≤ n → K' b = K b) ∧ (∀ b, b ≤ n → b ≠ 91 → P' b = P b) ∧ (∀ j, j ≠ i → P' 91 j = P 91 j) ∧ P' 91 i = w ∧ 171 < w ∧ w + 78 ≤ n' ∧ (∀ j, j < 20 → P' (w + 15) j = w + 19 + 3 * j) ∧ (∀ b, b ≤ n → I' b = I b ∧ L' b = L b) ∧ (∀ s len, apt n P s len → apt n' P' s len) ∧ (∀ j, j < 4 → j ≠ i → P 91 j ≠ 0 → P 91 j + 78 < w ∨ w + 78 < P 91 j) := by
    by_cases hp : P 91 i = 0
    · have e : hIm (n, K, P, I, L) i = pP (hWd (n, K, P, I, L)) 91 i (n + 1) := if_neg (fun h => h hp)
      rw [e] at gf ⊢
      clear e
      generalize hWd (n, K, P, I, L) = D at *
      change D.1 = n + 79 at hW1
      change ∀ b, b ≤ n → D.2.1 b = K b at hWK
      change ∀ b, b ≤ n → D.2.2.1 b = P b at hWP
      change ∀ b, b ≤ n → D.2.2.2.1 b = I b ∧ D.2.2.2.2 b = L b at hWI
      change ∀ j, j < 20 → D.2.2.1 (n + 16) j = n + 20 + 3 * j at hW5
      refine ⟨D.1, D.2.1, xu D.2.2.1 91 i (n + 1), D.2.2.2.1, D.2.2.2.2, n + 1, rfl, gf.1, gf.2, by omega, hWK, fun b h1 h2 => (xu_r h2).trans (hWP b h1), fun j hj => (xu_c hj).trans (congrFun (hWP 91 (by omega)) j), xu_s, by omega, by omega, fun j hj => ?_, hWI, fun s len ha => ⟨ha.1, by have := ha.2.1; omega, fun j hj h0 => ?_⟩, fun j hj hji h0 => ?_⟩
      · rw [xu_r (by omega)]
        have := hW5 j hj
        show D.2.2.1 (n + 16) j = _
        omega
      · by_cases e : j = i
        · subst e
          rw [xu_s]
          have := ha.2.1
          omega
        · rw [xu_c e, hWP 91 (by omega)] at h0 ⊢
          exact ha.2.2 j hj h0
      · have hm := C.2.2.1.1 j hj
        change cM n P I L j (zM Z j) at hm
        cases hz : zM Z j with
        | none => rw [hz] at hm; exact absurd hm h0
        | some V =>
          rw [hz] at hm
          have := hm.1.2
          omega
    · have e : hIm (n, K, P, I, L) i = (n, K, P, I, L) := if_pos hp
      have hm := C.2.2.1.1 i (by omega)
      change cM n P I L i (zM Z i) at hm
      cases hz : zM Z i with
      | none => rw [hz] at hm; exact absurd hm hp
      | some V =>
        rw [hz] at hm
        exact ⟨n, K, P, I, L, P 91 i, e, G, F, Nat.le_refl _, fun _ _ => rfl, fun _ _ _ => rfl, fun _ _ => rfl, rfl, hm.1.1, hm.1.2, hm.2.2.2, fun _ _ => ⟨rfl, rfl⟩, fun _ _ h => h, fun j hj hji h0 => C.2.2.1.2 j i hj (by omega) hji h0 hp⟩
  clear hW1 hWK hWP hWI hW5 gf
  obtain ⟨J, M, p1, p2, p3⟩ := im_fin hn ok C (by omega) hle hK hP h91 hw w1 w2 w15 hIL hap hdis
  have kw : K' w = (9, 0) := by
    rcases G'.2.2.2.2.2.2.2.2.1 i (by omega) with e | e
    · omega
    · rw [hw] at e; exact e
  have G1 := gw_X10_copyFrom (K := K') G' kw (g_K12 G') p1
  change GW K' (xu P' w 0 (P' 12 0)) at G1
  have R1 : RI J Z := RI_cls ok (fun b h1 h2 => (p3 b (by omega)).1) R
  have v1 : J 24 2 = nI A.2.2.1 := by rw [(p3 24 (by omega)).1]; exact cA_h ca
  obtain ⟨H, q1, q2, q3, q4, q5⟩ := saveK (k := i) (by omega) (xu J 171 i (nI 1))
  have r5 : ∀ b j, b ≠ 170 → b ≠ 163 → b ≠ 171 → b ≠ 123 ∨ (j ≠ 63 ∧ j ≠ 64) → H b j = J b j := fun b j h1 h2 h3 h4 => by rw [q5 b j h1 h2 h4, xu_r h3]
  have v2 : H 124 9 = nI A.2.2.1 := by
    rw [r5 124 9 (by decide) (by decide) (by decide) (by decide), (p3 124 (by omega)).1]
    exact ra.2.1
  have R2 : RI H (zIm Z i) := by
    refine ⟨rW_congr ok.1 (fun r j hj => ?_) ?_ R1.1, fun j hj => ?_, ⟨?_, fun r ru hr => rR_congr (fun b h1 h2 => funext fun j => ?_) (R1.2.2.1.2 r ru hr)⟩, ⟨?_, fun j y hy => ?_⟩, ?_, ?_⟩
    · have nr := lenR_ne hj
      exact r5 r j nr.1 nr.2.1 nr.2.2.2 (Or.inl nr.2.2.1)
    · exact r5 123 51 (by decide) (by decide) (by decide) (by decide)
    · show rM H j (if j = i then some (zW Z) else zM Z j)
      by_cases e : j = i
      · subst e
        rw [if_pos rfl]
        refine ⟨by rw [q5 171 j (by decide) (by decide) (Or.inl (by decide))]; exact xu_s, rW_congr ok.1 (fun r t ht => ?_) ?_ R1.1⟩
        · have nr := lenR_ne ht
          show H 170 _ = _
          rw [q2 r t ht, xu_r nr.2.2.2]
        · rw [q3, xu_r (by decide)]
      · rw [if_neg e]
        have hm := R1.2.1 j hj
        have h171 : H 171 j = J 171 j := by rw [q5 171 j (by decide) (by decide) (Or.inl (by decide)), xu_c e]
        have h170 : ∀ t, t < 3988 → H 170 (4100 * j + t) = J 170 (4100 * j + t) := fun t ht => by rw [q4 _ (by omega), xu_r (by decide)]
        cases hz : zM Z j with
        | none => rw [hz] at hm; exact h171.trans hm
        | some V =>
          rw [hz] at hm
          refine ⟨h171.trans hm.1, rW_congr (ok.2.1 j V hz) (fun r t ht => ?_) (h170 193 (by omega)) hm.2⟩
          have hl := offR_len r (lenR_200 ht)
          show H 170 (4100 * j + offR r + t) = J 170 (4100 * j + offR r + t)
          rw [Nat.add_assoc]
          exact h170 _ (by omega)
    · exact (r5 123 31 (by decide) (by decide) (by decide) (by decide)).trans R1.2.2.1.1
    · exact r5 b j (by omega) (by omega) (by omega) (Or.inl (by omega))
    · exact (r5 123 27 (by decide) (by decide) (by decide) (by decide)).trans R1.2.2.2.1.1
    · exact (r5 150 j (by decide) (by decide) (by decide) (Or.inl (by decide))).trans (R1.2.2.2.1.2 j y hy)
    · exact (r5 123 36 (by decide) (by decide) (by decide) (by decide)).trans R1.2.2.2.2.1
    · exact (r5 142 0 (by decide) (by decide) (by decide) (by decide)).trans R1.2.2.2.2.2
  refine ⟨nI A.2.2.1, (n', K', xu P' w 0 (P' 12 0), J, M), (n', K', xu P' w 0 (P' 12 0), H, M), ?_, G1, ?_, Inv_ref G1 F' (okZ_im ok (Nat.le_succ k)) p2 R2 (fun b hb => funext fun j => r5 b j (by omega) (by omega) (by omega) (Or.inl (by omega))) (fun _ _ => rfl)⟩
  · unfold oX_image mX11_image
    simp (disch := omega) only [↓reduceIte, Option.bind_some, Option.some.injEq, Prod.mk.injEq, and_self, and_true, true_and, eq_self, reduceCtorEq, not_false_eq_true, not_true_eq_false, or_true, true_or, or_false, false_or, bft, nAdd, nMul, nSub, nDiv, nRem, nAm1, nIx, nIn, bI_z, bI_o, ite_b1, ite_b0, zI_add, zI_sub, li0, li1, li2, li3, li4, li5, li6, li7, li8, li9, li10, li11, li12, li13, li14, li15, li16, li17, li18, li19, li20, li21, li22, li23, li24, li25, li26, li27, li28, li29, li30, li31, li32, li33, li34, li35, li36, li37, li40, li42, li43, li45, li47, li48, li57, li59, li60, li61, li62, li64, li80, li91, li93, li97, li99, li100, li122, li182, li199, li255, li300, li380, li400, li999, li1000, li3640, li4100, li65536, li99999, ln1, ln2, ln3, ln100, ln100000, tLe, fLe, tLt, fLt, tEq, fEq, zLe_t, zLe_f, zLt_t, zLt_f, zEq_t, zEq_f, nzLe_t, nzLe_f, znLe_t, znLe_f, nzLt_t, nzLt_f, znLt_t, znLt_f, nzEq_t, nzEq_f, znEq_t, znEq_f, e1, eh, hw, ne_eq, show ¬ w = 0 by omega, p1, v1]
  · unfold oM_image mX12_image
    simp (disch := omega) only [↓reduceIte, Option.bind_some, Option.some.injEq, Prod.mk.injEq, and_self, and_true, true_and, eq_self, reduceCtorEq, not_false_eq_true, not_true_eq_false, or_true, true_or, or_false, false_or, bft, nAdd, nMul, nSub, nDiv, nRem, nAm1, nIx, nIn, bI_z, bI_o, ite_b1, ite_b0, zI_add, zI_sub, li0, li1, li2, li3, li4, li5, li6, li7, li8, li9, li10, li11, li12, li13, li14, li15, li16, li17, li18, li19, li20, li21, li22, li23, li24, li25, li26, li27, li28, li29, li30, li31, li32, li33, li34, li35, li36, li37, li40, li42, li43, li45, li47, li48, li57, li59, li60, li61, li62, li64, li80, li91, li93, li97, li99, li100, li122, li182, li199, li255, li300, li380, li400, li999, li1000, li3640, li4100, li65536, li99999, ln1, ln2, ln3, ln100, ln100000, tLe, fLe, tLt, fLt, tEq, fEq, zLe_t, zLe_f, zLt_t, zLt_f, zEq_t, zEq_f, nzLe_t, nzLe_f, znLe_t, znLe_f, nzLt_t, nzLt_f, znLt_t, znLt_f, nzEq_t, nzEq_f, znEq_t, znEq_f, e2, q1, v2, Option.map_some]

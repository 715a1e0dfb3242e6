/-! image, back: the class's worlds copied. -/
def kp20 (P : Nat → Nat → Nat) (w : Nat) : Prop := (∀ j, j < 20 → ∃ i, i < 20 ∧ P (w + 15) j = w + 19 + 3 * i) ∧ ∀ i j, i < 20 → j < 20 → P (w + 15) i = P (w + 15) j → i = j
def uF (a0 a1 i : Nat) (I : Nat → Nat → Int32) : Nat → Nat → Int32 := xu I a0 i (I a1 i)
def rF (a0 a1 r : Nat) (I : Nat → Nat → Int32) : Nat → Nat → Int32 := xrow I (a0 + r) (va_cpy (I (a1 + r)) (I (a0 + r)) 0 0 10)
def cpF (a0 a1 : Nat) (I : Nat → Nat → Int32) : Nat → Nat → Int32 := uF a0 a1 9 (uF a0 a1 8 (uF a0 a1 7 (rF a0 a1 18 (rF a0 a1 17 (rF a0 a1 16 (uF a0 a1 3 I))))))
section
variable {a0 a1 : Nat} {I : Nat → Nat → Int32}
theorem uF_r {i b : Nat} (h : b ≠ a0) : uF a0 a1 i I b = I b := xu_r h
theorem uF_c {i j : Nat} (h : j ≠ i) : uF a0 a1 i I a0 j = I a0 j := xu_c h
theorem uF_s {i : Nat} : uF a0 a1 i I a0 i = I a1 i := xu_s
theorem rF_r {r b : Nat} (h : b ≠ a0 + r) : rF a0 a1 r I b = I b := xrow_r h
theorem rF_s {r j : Nat} (hj : j < 10) : rF a0 a1 r I (a0 + r) j = I (a1 + r) j := by
  unfold rF
  rw [xrow_at, cpy0 hj]
theorem cpF_r {b : Nat} (h0 : b ≠ a0) (h1 : b ≠ a0 + 16) (h2 : b ≠ a0 + 17) (h3 : b ≠ a0 + 18) : cpF a0 a1 I b = I b := by
  unfold cpF
  rw [uF_r h0, uF_r h0, uF_r h0, rF_r h3, rF_r h2, rF_r h1, uF_r h0]
theorem cpF_f {i : Nat} (hn : a0 + 78 < a1 ∨ a1 + 78 < a0) (hi : i = 3 ∨ i = 7 ∨ i = 8 ∨ i = 9) : cpF a0 a1 I a0 i = I a1 i := by
  unfold cpF
  rcases hi with rfl | rfl | rfl | rfl
  · rw [uF_c (by decide), uF_c (by decide), uF_c (by decide), rF_r (by omega), rF_r (by omega), rF_r (by omega), uF_s]
  · rw [uF_c (by decide), uF_c (by decide), uF_s, rF_r (by omega), rF_r (by omega), rF_r (by omega), uF_r (by omega)]
  · rw [uF_c (by decide), uF_s, uF_r (by omega), rF_r (by omega), rF_r (by omega), rF_r (by omega), uF_r (by omega)]
  · rw [uF_s, uF_r (by omega), uF_r (by omega), rF_r (by omega), rF_r (by omega), rF_r (by omega), uF_r (by omega)]
theorem cpF_l {r j : Nat} (hn : a0 + 78 < a1 ∨ a1 + 78 < a0) (hr : r = 16 ∨ r = 17 ∨ r = 18) (hj : j < 10) : cpF a0 a1 I (a0 + r) j = I (a1 + r) j := by
  unfold cpF
  rcases hr with rfl | rfl | rfl
  · rw [uF_r (by omega), uF_r (by omega), uF_r (by omega), rF_r (by omega), rF_r (by omega), rF_s hj, uF_r (by omega)]
  · rw [uF_r (by omega), uF_r (by omega), uF_r (by omega), rF_r (by omega), rF_s hj, rF_r (by omega), uF_r (by omega)]
  · rw [uF_r (by omega), uF_r (by omega), uF_r (by omega), rF_s hj, rF_r (by omega), rF_r (by omega), uF_r (by omega)]
end
theorem xcb10 : xcb (0 : Int32) (0 : Int32) (10 : Int32) 10 10 = true := by decide +kernel
theorem ix0 : ix (0 : Int32) = 0 := by decide +kernel
theorem ix10 : ix (10 : Int32) = 10 := by decide +kernel
section
variable {P : Nat → Nat → Nat} {S : sT}
/-- the kept states, one after another -/
theorem cpK_go {w0 w1 : Nat} {lst : List aT} {e50 : (Nat → Nat → Nat) → (Nat → Nat → Int32) → (Nat → Nat → Int64) → Nat → Nat → Option ((Nat → Nat → Nat) × (Nat → Nat → Int32) × (Nat → Nat → Int64))} (O : okS S) (k0 : kp20 P w0) (k1 : kp20 P w1) (hn : w0 + 78 < w1 ∨ w1 + 78 < w0) (hl : lst.length ≤ 20) : ∀ (f m j : Nat) (I : Nat → Nat → Int32) (L : Nat → Nat → Int64), m < f → m + j = lst.length → I w1 3 = nI lst.length → (∀ i B, lst[i]? = some B → cA I L (P (w1 + 15) i) S B) → (∀ i B, i < j → lst[i]? = some B → cA I L (P (w0 + 15) i) S B) → ∃ J M, mX10_copyFrom_21 e50 f P I L w0 w1 (nI j) = e50 P J M w0 w1 ∧ (∀ i B, lst[i]? = some B → cA J M (P (w0 + 15) i) S B) ∧ ∀ b, b < w0 + 19 ∨ w0 + 78 < b → J b = I b ∧ M b = L b
  | 0, m, j, I, L, h1, _, _, _, _ => absurd h1 (by omega)
  | f + 1, m, j, I, L, h1, h2, h3, hs, hd => by
    rw [mX10_copyFrom_21]
    cases m with
    | zero =>
      refine ⟨I, L, ?_, fun i B hB => hd i B (by have := (List.getElem?_eq_some_iff.mp hB).1; omega) hB, fun _ _ => ⟨rfl, rfl⟩⟩
      simp (disch := omega) only [↓reduceIte, Option.bind_some, Option.some.injEq, Prod.mk.injEq, and_self, and_true, true_and, eq_self, reduceCtorEq, not_false_eq_true, not_true_eq_false, or_true, true_or, or_false, false_or, bft, nAdd, nMul, nSub, nDiv, nRem, nAm1, nIx, nIn, bI_z, bI_o, ite_b1, ite_b0, zI_add, zI_sub, li0, li1, li2, li3, li4, li5, li6, li7, li8, li9, li10, li11, li12, li13, li14, li15, li16, li17, li18, li19, li20, li21, li22, li23, li24, li25, li26, li27, li28, li29, li30, li31, li32, li33, li34, li35, li36, li37, li40, li42, li43, li45, li47, li48, li57, li59, li60, li61, li62, li64, li80, li91, li93, li97, li99, li100, li122, li182, li199, li255, li300, li380, li400, li999, li1000, li3640, li4100, li65536, li99999, ln1, ln2, ln3, ln100, ln100000, tLe, fLe, tLt, fLt, tEq, fEq, zLe_t, zLe_f, zLt_t, zLt_f, zEq_t, zEq_f, nzLe_t, nzLe_f, znLe_t, znLe_f, nzLt_t, nzLt_f, znLt_t, znLt_f, nzEq_t, nzEq_f, znEq_t, znEq_f, h3]
    | succ m =>
      obtain ⟨B, hB⟩ : ∃ B, lst[j]? = some B := ⟨lst[j], List.getElem?_eq_getElem (by omega)⟩
      obtain ⟨x0, hx0, e0⟩ := k0.1 j (by omega)
      obtain ⟨x1, hx1, e1⟩ := k1.1 j (by omega)
      obtain ⟨J1, M1, p1, p2, p3, p4⟩ := copyState_ok (a0 := P (w0 + 15) j) (a1 := P (w1 + 15) j) O (by omega) (hs j B hB)
      have fr : ∀ b, b < P (w0 + 15) j ∨ P (w0 + 15) j + 2 < b → J1 b = I b ∧ M1 b = L b := fun b hb => ⟨p3 b (by omega) (by omega), p4 b (by omega)⟩
      have cg : ∀ a B, a + 2 < P (w0 + 15) j ∨ P (w0 + 15) j + 2 < a → cA I L a S B → cA J1 M1 a S B := fun a B ha hc => cA_congr (fr a (by omega)).1 (fr (a + 2) (by omega)).1 (fr (a + 1) (by omega)).2 hc
      obtain ⟨J, M, u1, u2, u3⟩ := cpK_go (e50 := e50) O k0 k1 hn hl f m (j + 1) J1 M1 (by omega) (by omega) (by rw [(fr w1 (by omega)).1]; exact h3) (fun i B' hB' => by
        have hi := (List.getElem?_eq_some_iff.mp hB').1
        obtain ⟨x2, hx2, e2⟩ := k1.1 i (by omega)
        exact cg _ _ (by omega) (hs i B' hB')) (fun i B' hi hB' => by
        by_cases w : i = j
        · subst w
          rw [hB] at hB'
          cases hB'
          exact p2
        · obtain ⟨x2, hx2, e2⟩ := k0.1 i (by omega)
          have hne : x2 ≠ x0 := fun e => w (k0.2 i j (by omega) (by omega) (by omega))
          exact cg _ _ (by omega) (hd i B' (by omega) hB'))
      refine ⟨J, M, ?_, u2, fun b hb => ?_⟩
      · simp (disch := omega) only [↓reduceIte, Option.bind_some, Option.some.injEq, Prod.mk.injEq, and_self, and_true, true_and, eq_self, reduceCtorEq, not_false_eq_true, not_true_eq_false, or_true, true_or, or_false, false_or, bft, nAdd, nMul, nSub, nDiv, nRem, nAm1, nIx, nIn, bI_z, bI_o, ite_b1, ite_b0, zI_add, zI_sub, li0, li1, li2, li3, li4, li5, li6, li7, li8, li9, li10, li11, li12, li13, li14, li15, li16, li17, li18, li19, li20, li21, li22, li23, li24, li25, li26, li27, li28, li29, li30, li31, li32, li33, li34, li35, li36, li37, li40, li42, li43, li45, li47, li48, li57, li59, li60, li61, li62, li64, li80, li91, li93, li97, li99, li100, li122, li182, li199, li255, li300, li380, li400, li999, li1000, li3640, li4100, li65536, li99999, ln1, ln2, ln3, ln100, ln100000, tLe, fLe, tLt, fLt, tEq, fEq, zLe_t, zLe_f, zLt_t, zLt_f, zEq_t, zEq_f, nzLe_t, nzLe_f, znLe_t, znLe_f, nzLt_t, nzLt_f, znLt_t, znLt_f, nzEq_t, nzEq_f, znEq_t, znEq_f, h3, p1]
        exact u1
      · obtain ⟨v1, v2⟩ := u3 b hb
        obtain ⟨z1, z2⟩ := fr b (by omega)
        exact ⟨v1.trans z1, v2.trans z2⟩
theorem cpW_ok {w0 w1 k nr : Nat} {W : wT} {I : Nat → Nat → Int32} {L : Nat → Nat → Int64} (ok : okW k nr W) (k0 : kp20 P w0) (k1 : kp20 P w1) (hn : w0 + 78 < w1 ∨ w1 + 78 < w0) (hst : ∀ b, P w1 0 ≤ b → b ≤ P w1 0 + 10 → b ≠ w0 ∧ (b < w0 + 12 ∨ w0 + 78 < b)) (C : cW P I L w1 W) : ∃ J M, mX10_copyFrom P I L w0 w1 = some (xu P w0 0 (P w1 0), J, M) ∧ cW (xu P w0 0 (P w1 0)) J M w0 W ∧ J (w0 + 12) 2 = nI (wA W).2.2.1 ∧ ∀ b, b ≠ w0 → b < w0 + 12 ∨ w0 + 78 < b → J b = I b ∧ M b = L b := by
  obtain ⟨o1, o2, o3, o4, o5, o6, o7⟩ := ok
  obtain ⟨⟨c1, c2⟩, c3, ⟨c4, c5⟩, ⟨c6, c7⟩, c8, c9⟩ := C
  obtain ⟨J1, M1, p1, p2, p3, p4⟩ := copyState_ok (a0 := w0 + 12) (a1 := w1 + 12) o1 (by omega) c3
  have fr1 : ∀ b, b < w0 + 12 ∨ w0 + 14 < b → J1 b = I b ∧ M1 b = L b := fun b hb => ⟨p3 b (by omega) (by omega), p4 b (by omega)⟩
  have e15 : ∀ w, w = w0 ∨ w = w1 → xu P w0 0 (P w1 0) (w + 15) = P (w + 15) := fun w hw => xu_r (by omega)
  have k0' : kp20 (xu P w0 0 (P w1 0)) w0 := by unfold kp20; rw [e15 w0 (Or.inl rfl)]; exact k0
  have k1' : kp20 (xu P w0 0 (P w1 0)) w1 := by unfold kp20; rw [e15 w1 (Or.inr rfl)]; exact k1
  obtain ⟨J2, M2, q1, q2, q3⟩ := cpK_go (lst := wK W) (e50 := fun P_9 I_9 L_9 a0_9 a1_9 => some (P_9, cpF a0_9 a1_9 I_9, L_9)) o1 k0' k1' hn o4.1 xf (wK W).length 0 J1 M1 (by have := o4.1; unfold xf; omega) (by omega) (by rw [(fr1 w1 (by omega)).1]; exact c4) (fun i B hB => by
    have hi := (List.getElem?_eq_some_iff.mp hB).1
    have := o4.1
    obtain ⟨x, hx, e⟩ := k1.1 i (by omega)
    rw [e15 w1 (Or.inr rfl)]
    exact cA_congr (fr1 _ (by omega)).1 (fr1 _ (by omega)).1 (fr1 _ (by omega)).2 (c5 i B hB)) (fun i B hi => absurd hi (by omega))
  have frJ : ∀ b, b ≠ w0 → b < w0 + 12 ∨ w0 + 78 < b → cpF w0 w1 J2 b = I b ∧ M2 b = L b := fun b h1 h2 => by
    obtain ⟨v1, v2⟩ := q3 b (by omega)
    obtain ⟨z1, z2⟩ := fr1 b (by omega)
    exact ⟨by rw [cpF_r h1 (by omega) (by omega) (by omega), v1, z1], v2.trans z2⟩
  have ew1 : ∀ b, b = w1 ∨ (w1 + 16 ≤ b ∧ b ≤ w1 + 18) → J2 b = I b := fun b hb => by rw [(q3 b (by omega)).1, (fr1 b (by omega)).1]
  have hc : cA (cpF w0 w1 J2) M2 (w0 + 12) (wS W) (wA W) := by
    refine cA_congr ?_ ?_ ?_ p2
    · rw [cpF_r (by omega) (by omega) (by omega) (by omega), (q3 _ (by omega)).1]
    · rw [cpF_r (by omega) (by omega) (by omega) (by omega), (q3 _ (by omega)).1]
    · rw [(q3 _ (by omega)).2]
  refine ⟨cpF w0 w1 J2, M2, ?_, ⟨⟨?_, ?_⟩, hc, ⟨?_, fun j B hB => ?_⟩, ⟨?_, fun j n t o hj => ?_⟩, ?_, ?_⟩, cA_h hc, frJ⟩
  · unfold mX10_copyFrom
    rw [p1, Option.bind_some]
    refine Eq.trans ?_ q1
    show mX10_copyFrom_21 _ xf _ J1 M1 w0 w1 (nI 0) = _
    congr 1
  · rw [xu_s]
    exact cS_congr (fun b h1 h2 => (frJ b (hst b h1 (by omega)).1 (hst b h1 (by omega)).2).1) c1
  · rw [xu_s]
    have f := fun b h1 h2 => frJ b (hst b h1 h2).1 (hst b h1 h2).2
    exact cA_congr (f _ (by omega) (by omega)).1 (f _ (by omega) (by omega)).1 (f _ (by omega) (by omega)).2 c2
  · rw [cpF_f hn (by omega), ew1 w1 (Or.inl rfl)]; exact c4
  · have hj := (List.getElem?_eq_some_iff.mp hB).1
    have := o4.1
    obtain ⟨x, hx, e⟩ := k0'.1 j (by omega)
    refine cA_congr ?_ ?_ rfl (q2 j B hB)
    · exact cpF_r (by omega) (by omega) (by omega) (by omega)
    · exact cpF_r (by omega) (by omega) (by omega) (by omega)
  · rw [cpF_f hn (by omega), ew1 w1 (Or.inl rfl)]; exact c6
  · have hj2 := (List.getElem?_eq_some_iff.mp hj).1
    have := o5.1
    rw [cpF_l hn (by omega) (by omega), cpF_l hn (by omega) (by omega), cpF_l hn (by omega) (by omega), ew1 _ (by omega), ew1 _ (by omega), ew1 _ (by omega)]
    exact c7 j n t o hj
  · rw [cpF_f hn (by omega), ew1 w1 (Or.inl rfl)]; exact c8
  · rw [cpF_f hn (by omega), ew1 w1 (Or.inl rfl)]; exact c9
end

/-! rule. -/
theorem xcpy_at {h : xH} {a n : Nat} : (xcpy h a n).2.2.2.1 (h.1 + 1) = va_cpy (h.2.2.2.1 a) (fun _ => 0) 0 0 n := by
  show xrow _ (h.1 + 1) _ (h.1 + 1) = _
  exact funext fun j => by rw [xrow_at]
theorem hRu_at {h : xH} {s c : Nat} (hn : 10 ≤ h.1) : (∀ j, j < s → (hRu h s c).2.2.2.1 (h.1 + 2) j = h.2.2.2.1 8 j) ∧ (∀ j, j < c → (hRu h s c).2.2.2.1 (h.1 + 3) j = h.2.2.2.1 9 j) ∧ ∀ j, j < c → (hRu h s c).2.2.2.1 (h.1 + 4) j = h.2.2.2.1 10 j := by
  have e : (hRu h s c).2.2.2.1 = (xcpy (xcpy (xcpy (xnew h (2, 0)) 8 s) 9 c) 10 c).2.2.2.1 := rfl
  rw [e]
  refine ⟨fun j hj => ?_, fun j hj => ?_, fun j hj => ?_⟩
  · rw [xcpy_I (by simp only [xcpy_1, xnew_1]; omega), xcpy_I (by simp only [xcpy_1, xnew_1]; omega)]
    have := xcpy_at (h := xnew h (2, 0)) (a := 8) (n := s)
    rw [xnew_1, xnew_I (by omega)] at this
    rw [show h.1 + 2 = h.1 + 1 + 1 from rfl, this, cpy0 hj]
  · rw [xcpy_I (by simp only [xcpy_1, xnew_1]; omega)]
    have := xcpy_at (h := xcpy (xnew h (2, 0)) 8 s) (a := 9) (n := c)
    have e9 : (xcpy (xnew h (2, 0)) 8 s).2.2.2.1 9 = h.2.2.2.1 9 := by rw [xcpy_I (by simp only [xnew_1]; omega), xnew_I (by omega)]
    rw [xcpy_1, xnew_1, e9] at this
    rw [show h.1 + 3 = h.1 + 1 + 1 + 1 from rfl, this, cpy0 hj]
  · have := xcpy_at (h := xcpy (xcpy (xnew h (2, 0)) 8 s) 9 c) (a := 10) (n := c)
    have e10 : (xcpy (xcpy (xnew h (2, 0)) 8 s) 9 c).2.2.2.1 10 = h.2.2.2.1 10 := by rw [xcpy_I (by simp only [xcpy_1, xnew_1]; omega), xcpy_I (by simp only [xnew_1]; omega), xnew_I (by omega)]
    rw [xcpy_1, xcpy_1, xnew_1, e10] at this
    rw [show h.1 + 4 = h.1 + 1 + 1 + 1 + 1 from rfl, this, cpy0 hj]
section
variable {n a : Nat} {K : Nat → Nat × Nat} {P : Nat → Nat → Nat} {I J : Nat → Nat → Int32} {L : Nat → Nat → Int64} {Z : zT} {k : Nat} {ru : ruT}
theorem CI_rule (ok : okZ k Z) (C : CI (n, K, P, I, L) Z) (hr : cR K I a ru) (ha : apt n P a 3) : CI (n, K, xu P 11 (zR Z).length a, xu I 1 5 (nI ((zR Z).length + 1)), L) (zW Z, zM Z, zR Z ++ [ru], zP Z) := by
  obtain ⟨⟨c1, c2⟩, c3, ⟨c5, c6⟩, ⟨c7, c8⟩, c9, c10⟩ := C
  change cW P I L 12 (zW Z) at c1
  change plZ n P (P 12 0) at c2
  change ∀ i, i < 4 → cM n P I L i (zM Z i) at c5
  change ∀ r ru, (zR Z)[r]? = some ru → cR K I (P 11 r) ru ∧ apt n P (P 11 r) 3 at c8
  have p91 : xu P 11 (zR Z).length a 91 = P 91 := xu_r (by decide)
  have hap : ∀ s len, apt n P s len → apt n (xu P 11 (zR Z).length a) s len := fun s len h => by unfold apt; rw [p91]; exact h
  have i1 : ∀ b, b ≠ 1 → xu I 1 5 (nI ((zR Z).length + 1)) b = I b := fun b h => xu_r h
  refine ⟨⟨?_, ?_⟩, ?_, ⟨fun j hj => ?_, ?_⟩, ⟨?_, fun r ru2 h2 => ?_⟩, ?_, fun j x hx => ?_⟩
  · show cW (xu P 11 (zR Z).length a) (xu I 1 5 (nI ((zR Z).length + 1))) L 12 (zW Z)
    refine cW_P (P := P) (by rw [xu_r (by decide)]) (xu_r (by decide)) (cW_congr (fun b hb => ⟨i1 b ?_, rfl⟩) (fun j B hB b h1 h2 => ⟨i1 b ?_, rfl⟩) c1)
    · rcases c2 with e | e
      · omega
      · have := e.1; omega
    · have hj := (List.getElem?_eq_some_iff.mp hB).1
      obtain ⟨x, hx, e⟩ := c3.1 j (by have := ok.1.2.2.2.1.1; change j < (wK (zW Z)).length at hj; omega)
      change P 27 j = 31 + 3 * x at e
      change P 27 j ≤ b at h1
      omega
  · show plZ n (xu P 11 (zR Z).length a) (xu P 11 (zR Z).length a 12 0)
    rw [xu_r (by decide)]
    exact c2.imp id (hap _ 10)
  · show (∀ j, j < 20 → ∃ i, i < 20 ∧ xu P 11 (zR Z).length a 27 j = 31 + 3 * i) ∧ _
    rw [xu_r (by decide)]
    exact c3
  · show cM n (xu P 11 (zR Z).length a) _ L j (zM Z j)
    have hm := c5 j hj
    cases hz : zM Z j with
    | none =>
      rw [hz] at hm
      show xu P 11 (zR Z).length a 91 j = 0
      rw [p91]; exact hm
    | some V =>
      rw [hz] at hm
      obtain ⟨⟨m1, m2⟩, m3, m4, m5⟩ := hm
      unfold cM
      rw [p91]
      refine ⟨⟨m1, m2⟩, cW_P (P := P) (by rw [xu_r (by omega)]) (xu_r (by omega)) (cW_congr (fun b hb => ⟨i1 b ?_, rfl⟩) (fun i B hB b h1 h2 => ⟨i1 b ?_, rfl⟩) m3), ?_, fun i hi => ?_⟩
      · rcases m4 with e | e
        · omega
        · have := e.1; omega
      · have hi := (List.getElem?_eq_some_iff.mp hB).1
        rw [m5 i (by have := (ok.2.1 j V hz).2.2.2.1.1; omega)] at h1
        omega
      · rw [xu_r (by omega)]; exact m4.imp id (hap _ 10)
      · rw [xu_r (by omega)]; exact m5 i hi
  · show ∀ i j, i < 4 → j < 4 → i ≠ j → xu P 11 (zR Z).length a 91 i ≠ 0 → xu P 11 (zR Z).length a 91 j ≠ 0 → xu P 11 (zR Z).length a 91 i + 78 < xu P 11 (zR Z).length a 91 j ∨ xu P 11 (zR Z).length a 91 j + 78 < xu P 11 (zR Z).length a 91 i
    rw [p91]
    exact c6
  · show xu I 1 5 (nI ((zR Z).length + 1)) 1 5 = nI (zR Z ++ [ru]).length
    rw [xu_s, List.length_append]; rfl
  · show cR K (xu I 1 5 (nI ((zR Z).length + 1))) (xu P 11 (zR Z).length a 11 r) ru2 ∧ apt n (xu P 11 (zR Z).length a) (xu P 11 (zR Z).length a 11 r) 3
    change (zR Z ++ [ru])[r]? = some ru2 at h2
    have hi := (List.getElem?_eq_some_iff.mp h2).1
    rw [List.length_append] at hi
    simp only [List.length_cons, List.length_nil] at hi
    by_cases e : r = (zR Z).length
    · subst e
      rw [List.getElem?_append_right (Nat.le_refl _), Nat.sub_self] at h2
      cases h2
      rw [xu_s]
      have a1 := ha.1
      exact ⟨cR_congr (fun b h1 h2 => i1 b (by omega)) hr, hap _ _ ha⟩
    · rw [List.getElem?_append_left (by omega)] at h2
      rw [xu_c e]
      have d := c8 r ru2 h2
      have a1 := d.2.1
      exact ⟨cR_congr (fun b h1 h2 => i1 b (by omega)) d.1, hap _ _ d.2⟩
  · show xu I 1 5 (nI ((zR Z).length + 1)) 1 1 = _
    rw [xu_c (by decide)]; exact c9
  · show xu I 1 5 (nI ((zR Z).length + 1)) 2 j = _
    rw [i1 2 (by decide)]; exact c10 j x hx
theorem rR_V {r s : Nat} (h : frV r I J) (hs : s < r) (o : okRu ru) (R : rR I s ru) : rR J s ru := by
  obtain ⟨r1, r2, r3⟩ := R
  refine ⟨by rw [h 153 s (by omega) (by omega)]; exact r1, fun i x hi => ?_, fun j t e hj => ?_⟩
  · have hl := (List.getElem?_eq_some_iff.mp hi).1
    have := o.1
    rw [h 151 _ (by omega) (by omega), h 152 _ (by omega) (by omega)]
    exact r2 i x hi
  · have hl := (List.getElem?_eq_some_iff.mp hj).1
    have := o.2.1
    rw [h 154 _ (by omega) (by omega), h 155 _ (by omega) (by omega), h 156 _ (by omega) (by omega)]
    exact r3 j t e hj
theorem RI_V {rs : List ruT} (ok : okZ k Z) (R : RI I Z) (f : frV (zR Z).length I J) (h27 : J 123 27 = nI 0) (h31 : J 123 31 = nI rs.length) (hrs : ∀ r ru, rs[r]? = some ru → rR J r ru) : RI J (zW Z, zM Z, rs, []) := by
  obtain ⟨r1, r2, r3, r4, r5⟩ := R
  refine ⟨rW_congr ok.1 (fun r i hi => ?_) (f 123 51 (by omega) (by omega)) r1, fun i hi => ?_, ⟨h31, hrs⟩, ⟨h27, fun i x hx => by cases hx⟩, by rw [f 123 36 (by omega) (by omega)]; exact r5.1, by rw [f 142 0 (by omega) (by omega)]; exact r5.2⟩
  · refine f r i (by have := lenR_ne hi; omega) (Or.inl ?_)
    rcases Nat.lt_or_ge r 151 with c | c
    · exact Or.inl c
    · rcases Nat.lt_or_ge 157 r with d | d
      · exact Or.inr d
      · rw [lenR_off (by omega)] at hi; omega
  · have hm := r2 i hi
    show rM J i (zM Z i)
    have e0 : J 170 = I 170 := funext fun j => f 170 j (by omega) (by omega)
    have e1 : J 171 = I 171 := funext fun j => f 171 j (by omega) (by omega)
    cases hz : zM Z i with
    | none => rw [hz] at hm; show J 171 i = _; rw [e1]; exact hm
    | some W =>
      rw [hz] at hm
      unfold rM imG
      rw [e0, e1]
      exact hm
end
theorem q_rule {k : Nat} (hk : k < 512) : st_rule (Inv k) (Inv (k + 1)) := by
  intro h hI
  obtain ⟨n, K, P, I, L⟩ := h
  obtain ⟨⟨G, F⟩, Z, ok, C, R⟩ := id hI
  change RI I Z at R
  have O := okZ_S ok
  have o1 := O.1
  have hA := okZ_A ok
  have hh := okZ_h ok
  have cs := CI_S C
  have ca := CI_A C
  have rs := RI_S R
  have ra := RI_A R
  generalize hS : wS (zW Z) = S at O o1 hA cs ca rs ra
  generalize hAA : wA (zW Z) = A at hA hh ca ra
  have hn : 171 ≤ n := Fr_le F (g_K171 G) (by decide)
  have okt := okT_Z ok
  have c15 : I 1 5 = nI (zR Z).length := C.2.2.2.1.1
  have h31 : I 123 31 = nI (zR Z).length := R.2.2.1.1
  have rl := ok.2.2.1
  by_cases h6 : (zR Z).length = 6
  · refine ⟨-1, (n, K, P, I, L), (n, K, P, I, L), ?_, G, ?_, Inv_q hI (fun _ _ => rfl)⟩
    · unfold oX_rule mX11_rule
      rw [if_neg (show ¬ I 1 5 < (6 : Int32) by rw [c15, h6]; decide)]
    · unfold oM_rule mX12_rule
      change Option.map _ (if I 123 31 = (6 : Int32) then _ else _) = _
      rw [if_pos (show I 123 31 = (6 : Int32) by rw [h31, h6]; rfl)]
      rfl
  have hr : (zR Z).length < 6 := by have := rl.1; omega
  obtain ⟨I1, t1, t2, t3, t4⟩ := takeTape_ok okt (txC_Z C) C.2.2.2.2.1
  have rd := rlC_ok okt t2
  have sq : sk (txZ Z) 0 ≤ (txZ Z).2 := sk_n (Nat.zero_le _)
  have em : mX11_rule (n, K, P, I, L) = Option.bind (mX4_readAll I1) (fun q2 =>
      if q2.1 = 0 then some ((-2 : Int32) - q2.2 3 5, xI (n, K, P, I, L) q2.2)
      else if inb (q2.2 1 5) 6 = true then if inb (q2.2 7 4) 401 = true then if inb (q2.2 7 5) 13 = true then
        some ((xu (hRu (xI (n, K, P, I, L) q2.2) (ix (q2.2 7 4)) (ix (q2.2 7 5))).2.2.2.1 1 5 (q2.2 1 5 + 1)) 1 5 - 1, pI (pP (hRu (xI (n, K, P, I, L) q2.2) (ix (q2.2 7 4)) (ix (q2.2 7 5))) 11 (ix (q2.2 1 5)) (n + 1)) 1 5 (q2.2 1 5 + 1))
      else none else none else none) := by
    unfold mX11_rule
    rw [if_pos (show I 1 5 < (6 : Int32) by rw [c15]; exact (nLt (b := 6) (by omega) (by omega)).mpr hr)]
    change Option.bind (mX11_takeTape I) _ = _
    rw [t1, Option.bind_some]
  have okn0 : okZ (k + 1) (zW Z, zM Z, zR Z, []) := by
    have o := okZ_mono (Nat.le_succ k) ok
    exact ⟨o.1, o.2.1, o.2.2.1, Nat.zero_le _, fun x hx => by cases hx⟩
  cases hv : rlS (txZ Z) 13 0 (sk (txZ Z) 0) 0 [] [] with
  | error e =>
    rw [hv] at rd
    obtain ⟨J, r1, r2, r3⟩ := rd
    have jI : ∀ b, 10 < b → J b = I b := fun b h1 => (r3 b (by omega) (by omega)).trans (funext fun j => t4 b j (by omega) (by omega))
    have j1 : ∀ j, j ≠ 1 → J 1 j = I 1 j := fun j hj => by rw [r3 1 (by omega) (by omega)]; exact t4 1 j (by omega) (by omega)
    have C0 : CI (n, K, P, J, L) (zW Z, zM Z, zR Z, []) := CI_ext0 ok hn (Nat.le_refl _) (fun _ _ => rfl) (fun _ _ => rfl) (fun b h1 h2 => ⟨jI b (by omega), rfl⟩) (j1 5 (by decide)) (by rw [r3 1 (by omega) (by omega)]; exact t3) C
    have RJ : RI J Z := RI_cls ok (fun b h1 h2 => jI b (by omega)) R
    have rr := rRule_ok (I := J) okt (txR_Z RJ) hr RJ.2.2.1.1 RJ.2.2.2.2.1
    rw [hv] at rr
    obtain ⟨H, s1, s2, s3, s4⟩ := rr
    have RH : RI H (zW Z, zM Z, zR Z, []) := RI_V ok RJ s4 s2 s3 (fun r ru hr => rR_V s4 (List.getElem?_eq_some_iff.mp hr).1 (rl.2 ru (List.mem_of_getElem? hr)) (RJ.2.2.1.2 r ru hr))
    refine ⟨(-2 : Int32) - nI e, (n, K, P, J, L), (n, K, P, H, L), ?_, G, ?_, Inv_ref (I := J) G F okn0 C0 RH (fun b hb => funext fun j => s4 b j (by omega) (by omega)) (fun _ _ => rfl)⟩
    · unfold oX_rule
      rw [em, r1, Option.bind_some]
      dsimp only
      rw [if_pos (show nI 0 = (0 : Int32) from rfl), r2]
      rfl
    · unfold oM_rule
      change Option.map _ (mX12_rule J) = _
      rw [s1]; rfl
  | ok ru =>
    rw [hv] at rd
    have oru := rlS_okR okt sq hv
    obtain ⟨J, r1, ⟨c0, r2⟩, r3, r4⟩ := rd
    have jI : ∀ b, 10 < b → J b = I b := fun b h1 => (r4 b (by omega) (by omega)).trans (funext fun j => t4 b j (by omega) (by omega))
    have j1 : ∀ j, j ≠ 1 → J 1 j = I 1 j := fun j hj => by rw [r4 1 (by omega) (by omega)]; exact t4 1 j (by omega) (by omega)
    have j11 : J 1 1 = nI 0 := by rw [r4 1 (by omega) (by omega)]; exact t3
    have j15 : J 1 5 = nI (zR Z).length := (j1 5 (by decide)).trans c15
    have o1' := oru.1
    have o2' := oru.2.1
    have GD := gw_ru (h := (n, K, P, J, L)) G F ru.1.length ru.2.length
    have FD := Fr_ru (h := (n, K, P, J, L)) F ru.1.length ru.2.length
    have D1 := hRu_1 (n, K, P, J, L) ru.1.length ru.2.length
    have DK := fun b hb => hRu_K (h := (n, K, P, J, L)) (s := ru.1.length) (c := ru.2.length) (b := b) hb
    have DP := fun b hb => hRu_P (h := (n, K, P, J, L)) (s := ru.1.length) (c := ru.2.length) (b := b) hb
    have DI := fun b hb => hRu_I (h := (n, K, P, J, L)) (s := ru.1.length) (c := ru.2.length) (b := b) hb
    have DL := fun b hb => hRu_L (h := (n, K, P, J, L)) (s := ru.1.length) (c := ru.2.length) (b := b) hb
    have DA := hRu_at (h := (n, K, P, J, L)) (s := ru.1.length) (c := ru.2.length) (by show 10 ≤ n; omega)
    have DT := hR3_at (n, K, P, J, L) ru.1.length ru.2.length
    have DT2 : (hRu (n, K, P, J, L) ru.1.length ru.2.length).2.1 = (hR3 (n, K, P, J, L) ru.1.length ru.2.length).2.1 := rfl
    rw [← DT2] at DT
    have em2 : mX11_rule (n, K, P, I, L) = some ((xu (hRu (n, K, P, J, L) ru.1.length ru.2.length).2.2.2.1 1 5 (nI ((zR Z).length + 1))) 1 5 - 1, pI (pP (hRu (n, K, P, J, L) ru.1.length ru.2.length) 11 (zR Z).length (n + 1)) 1 5 (nI ((zR Z).length + 1))) := by
      rw [em, r1, Option.bind_some]
      simp (disch := omega) only [↓reduceIte, Option.bind_some, Option.some.injEq, Prod.mk.injEq, and_self, and_true, true_and, eq_self, reduceCtorEq, not_false_eq_true, not_true_eq_false, or_true, true_or, or_false, false_or, bft, nAdd, nMul, nSub, nDiv, nRem, nAm1, nIx, nIn, bI_z, bI_o, ite_b1, ite_b0, zI_add, zI_sub, li0, li1, li2, li3, li4, li5, li6, li7, li8, li9, li10, li11, li12, li13, li14, li15, li16, li17, li18, li19, li20, li21, li22, li23, li24, li25, li26, li27, li28, li29, li30, li31, li32, li33, li34, li35, li36, li37, li40, li42, li43, li45, li47, li48, li57, li59, li60, li61, li62, li64, li80, li91, li93, li97, li99, li100, li122, li182, li199, li255, li300, li380, li400, li999, li1000, li3640, li4100, li65536, li99999, ln1, ln2, ln3, ln100, ln100000, tLe, fLe, tLt, fLt, tEq, fEq, zLe_t, zLe_f, zLt_t, zLt_f, zEq_t, zEq_f, nzLe_t, nzLe_f, znLe_t, znLe_f, nzLt_t, nzLt_f, znLt_t, znLt_f, nzEq_t, nzEq_f, znEq_t, znEq_f, j15, r2.1, r3.1]
      exact ⟨rfl, rfl⟩
    clear DT2 em
    generalize hRu (n, K, P, J, L) ru.1.length ru.2.length = D at *
    obtain ⟨Dn, DK', DP', DI', DL'⟩ := D
    change Dn = n + 4 at D1
    change ∀ b, b ≤ n → DK' b = K b at DK
    change ∀ b, b ≤ n → DP' b = P b at DP
    change ∀ b, b ≤ n → DI' b = J b at DI
    change ∀ b, b ≤ n → DL' b = L b at DL
    change (∀ j, j < ru.1.length → DI' (n + 2) j = J 8 j) ∧ (∀ j, j < ru.2.length → DI' (n + 3) j = J 9 j) ∧ ∀ j, j < ru.2.length → DI' (n + 4) j = J 10 j at DA
    change DK' (n + 1) = (2, 0) ∧ DK' (n + 2) = (20, ru.1.length) ∧ DK' (n + 3) = (20, ru.2.length) ∧ DK' (n + 4) = (20, ru.2.length) at DT
    change GW DK' DP' at GD
    subst D1
    have C0 : CI (n + 4, DK', DP', DI', DL') (zW Z, zM Z, zR Z, []) := CI_ext0 ok hn (by omega) DK DP (fun b h1 h2 => ⟨(DI b h1).trans (jI b (by omega)), DL b h1⟩) (by rw [DI 1 (by omega)]; exact j1 5 (by decide)) (by rw [DI 1 (by omega)]; exact j11) C
    have p91 : DP' 91 = P 91 := DP 91 (by omega)
    have ha : apt (n + 4) DP' (n + 1) 3 := by
      refine ⟨by omega, by omega, fun j hj h0 => ?_⟩
      have hm := C.2.2.1.1 j hj
      change cM n P I L j (zM Z j) at hm
      rw [p91] at h0 ⊢
      cases hz : zM Z j with
      | none => rw [hz] at hm; exact absurd hm h0
      | some V =>
        rw [hz] at hm
        have := hm.1.2
        omega
    have hcR : cR DK' DI' (n + 1) ru := by
      refine ⟨by show (DK' (n + 2)).2 = _; rw [DT.2.1], by show (DK' (n + 3)).2 = _; rw [DT.2.2.1], by show (DK' (n + 4)).2 = _; rw [DT.2.2.2], fun i x hi => ?_, fun j t e hj => ?_⟩
      · have hl := (List.getElem?_eq_some_iff.mp hi).1
        show DI' (n + 2) i = _
        rw [DA.1 i hl]
        exact r2.2.2 i x hi
      · have hl := (List.getElem?_eq_some_iff.mp hj).1
        show DI' (n + 3) j = _ ∧ DI' (n + 4) j = _
        rw [DA.2.1 j hl, DA.2.2 j hl]
        exact r3.2 j t e hj
    have okk : okZ k (zW Z, zM Z, zR Z, []) := ⟨ok.1, ok.2.1, ok.2.2.1, Nat.zero_le _, fun x hx => by cases hx⟩
    have C1 := CI_rule (Z := (zW Z, zM Z, zR Z, [])) okk C0 hcR ha
    change CI (n + 4, DK', xu DP' 11 (zR Z).length (n + 1), xu DI' 1 5 (nI ((zR Z).length + 1)), DL') (zW Z, zM Z, zR Z ++ [ru], []) at C1
    have okn : okZ (k + 1) (zW Z, zM Z, zR Z ++ [ru], []) := by
      have ll : (zR Z ++ [ru]).length = (zR Z).length + 1 := by rw [List.length_append]; rfl
      have mono : ∀ W, okW k (zR Z).length W → okW (k + 1) (zR Z ++ [ru]).length W := fun W o => okW_mono (Nat.le_succ k) (by omega) o
      refine ⟨mono _ ok.1, fun i W hW => mono W (ok.2.1 i W hW), ⟨by show (zR Z ++ [ru]).length ≤ 6; omega, fun x hx => ?_⟩, Nat.zero_le _, fun x hx => by cases hx⟩
      rcases List.mem_append.mp hx with hx | hx
      · exact rl.2 x hx
      · rw [List.mem_singleton] at hx; subst hx; exact oru
    have RJ : RI (xu DI' 1 5 (nI ((zR Z).length + 1))) Z := RI_cls ok (fun b h1 h2 => by rw [xu_r (by omega), DI b (by omega), jI b (by omega)]) R
    have rr := rRule_ok (I := xu DI' 1 5 (nI ((zR Z).length + 1))) okt (txR_Z RJ) hr RJ.2.2.1.1 RJ.2.2.2.2.1
    rw [hv] at rr
    obtain ⟨H, s1, s2, s3, s4, s5⟩ := rr
    have RH : RI H (zW Z, zM Z, zR Z ++ [ru], []) := RI_V ok RJ s5 s2 (by rw [List.length_append]; exact s3) (fun r ru2 hr2 => by
      have hi := (List.getElem?_eq_some_iff.mp hr2).1
      rw [List.length_append] at hi
      simp only [List.length_cons, List.length_nil] at hi
      by_cases e : r = (zR Z).length
      · subst e
        rw [List.getElem?_append_right (Nat.le_refl _), Nat.sub_self] at hr2
        cases hr2
        exact s4
      · rw [List.getElem?_append_left (by omega)] at hr2
        exact rR_V s5 (by omega) (rl.2 ru2 (List.mem_of_getElem? hr2)) (RJ.2.2.1.2 r ru2 hr2))
    have G1 : GW DK' (xu DP' 11 (zR Z).length (n + 1)) := gw_upd GD 11 (zR Z).length (n + 1) (Or.inr (Or.inr (Or.inl ⟨rfl, Or.inr DT.1⟩)))
    refine ⟨nI (zR Z).length, (n + 4, DK', xu DP' 11 (zR Z).length (n + 1), xu DI' 1 5 (nI ((zR Z).length + 1)), DL'), (n + 4, DK', xu DP' 11 (zR Z).length (n + 1), H, DL'), ?_, G1, ?_, Inv_ref G1 FD okn C1 RH (fun b hb => funext fun j => s5 b j (by omega) (by omega)) (fun _ _ => rfl)⟩
    · unfold oX_rule
      rw [em2]
      change some (xu DI' 1 5 (nI ((zR Z).length + 1)) 1 5 - 1, _) = _
      rw [xu_s, show nI ((zR Z).length + 1) - 1 = nI (zR Z).length by rw [li1, nSub (by omega)]; rfl]
      rfl
    · unfold oM_rule
      change Option.map _ (mX12_rule (xu DI' 1 5 (nI ((zR Z).length + 1)))) = _
      rw [s1]; rfl

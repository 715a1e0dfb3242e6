/-! rule: the class's reader, the whole text. -/
def clC (I : Nat → Nat → Int32) (cl : List (Nat × Nat)) : Prop := I 7 5 = nI cl.length ∧ ∀ j t e, cl[j]? = some (t, e) → I 9 j = nI t ∧ I 10 j = nI e
def frA (I J : Nat → Nat → Int32) : Prop := ∀ b, b ≠ 3 → b < 7 ∨ 10 < b → J b = I b
def aRes (T : txT) (I : Nat → Nat → Int32) (r : Except Nat ruT) (x : Option (Int32 × (Nat → Nat → Int32))) : Prop := match r with
  | .error e => ∃ J, x = some (nI 0, J) ∧ J 3 5 = nI e ∧ frA I J
  | .ok ru => ∃ J, x = some (nI 1, J) ∧ (∃ c, cC J c ru.1) ∧ clC J ru.2 ∧ frA I J
section
variable {T : txT} {I J H : Nat → Nat → Int32} {q c : Nat} {cd : List Nat} {cl : List (Nat × Nat)}
theorem frA_of (h : frK I J) : frA I J := fun b h1 h2 => funext fun k => h b k h1 (by omega) (by omega)
theorem frA_tr (h1 : frA I J) (h2 : frA J H) : frA I H := fun b x y => (h2 b x y).trans (h1 b x y)
theorem frA_3 {k : Nat} {v : Int32} : frA I (xu I 3 k v) := fun b h1 _ => xu_r h1
theorem aRes_fr {r : Except Nat ruT} {x : Option (Int32 × (Nat → Nat → Int32))} (f : frA I J) (h : aRes T J r x) : aRes T I r x := by
  cases r with
  | error e => obtain ⟨H, a, b, d⟩ := h; exact ⟨H, a, b, frA_tr f d⟩
  | ok y => obtain ⟨H, a, b, z, d⟩ := h; exact ⟨H, a, b, z, frA_tr f d⟩
theorem clC_fr (h : frK I J) (C : clC I cl) : clC J cl := ⟨by rw [h 7 5 (by decide) (by decide) (by decide)]; exact C.1, fun j t e hj => by rw [h 9 j (by decide) (by decide) (by omega), h 10 j (by decide) (by decide) (by omega)]; exact C.2 j t e hj⟩
theorem aFail {e k : Nat} (ok : okT T) (h : tA T q I) (hk : k < 8) (he : e = 1 + 8 * q + k) : aRes T I (.error e) (Option.bind (mX9_fail I (nI k)) (fun q => if q.1 = 0 ∨ q.1 = 1 then some (q.1, q.2) else none)) := by
  subst he
  refine ⟨xu I 3 5 (nI (1 + 8 * q + k)), ?_, xu_s, frA_3⟩
  rw [fail_ok ok h hk, Option.bind_some]
  exact if_pos (Or.inl rfl)
theorem rlC_go (ok : okT T) : ∀ (m k f q c : Nat) (cd : List Nat) (cl : List (Nat × Nat)) (I : Nat → Nat → Int32), k + m = 12 → m + 1 < f → tA T q I → cC I c cd → clC I cl → cl.length = k → cd.length ≤ q → c ≤ 60 → aRes T I (rlS T (m + 1) k q c cd cl) (mX4_readAll_17 f I (nI k))
  | m, k, 0, q, c, cd, cl, I, _, h, _, _, _, _, _, _ => absurd h (by omega)
  | m, k, f + 1, q, c, cd, cl, I, h1, h2, h, C, CL, hk, hl, hc => by
    have hn := ok.1
    have hq := tA_n h
    have kl := kd_lt37 (T := T) (q := q)
    rw [rlS, mX4_readAll_17, if_neg (show ¬ (12 : Int32) < nI k from fun z => absurd ((nLt (a := 12) (by omega) (by omega)).mp z) (by omega)), kind_ok h, Option.bind_some]
    by_cases h17 : kd T q = 17
    · rw [if_pos h17, if_pos (show nI (kd T q) = (17 : Int32) by rw [h17]; rfl)]
      by_cases h12 : k = 12
      · rw [if_pos h12, if_pos (show nI k = (12 : Int32) by rw [h12]; rfl)]
        exact aFail (k := 4) ok h (by omega) rfl
      · rw [if_neg h12, if_neg (nNeL (x := 12) (b := 12) rfl (by omega) (by omega) h12)]
        have kn := kd_nx (T := T) (q := q) (by omega)
        obtain ⟨v, s1, s2⟩ := step_ok h kn.1
        rw [s1, Option.bind_some]
        have so := sumC_ok ok s2 (cC_3 C) (by omega) hc
        have CL0 : clC (xu I 3 4 v) cl := clC_fr frK_3 CL
        -- the clause's end
        have fin : ∀ (J : Nat → Nat → Int32) (q2 c2 : Nat) (o o2 : List Nat), frA I J → tA T q2 J → q ≤ q2 → cC J c2 (cd ++ (o ++ o2)) → clC J cl → J 9 k = nI (cd.length + o.length) → (cd ++ (o ++ o2)).length ≤ q2 → c2 ≤ 60 → aRes T I (if kd T q2 = 36 then .ok (cd ++ (o ++ o2), cl ++ [(cd.length + o.length, cd.length + o.length + o2.length)]) else if kd T q2 = 32 then rlS T m (k + 1) (nx T q2) c2 (cd ++ (o ++ o2)) (cl ++ [(cd.length + o.length, cd.length + o.length + o2.length)]) else .error (1 + 8 * q2)) (mX4_readAll_114 (fun I a1 => mX4_readAll_17 f I a1) J (nI k)) := by
          intro J q2 c2 o o2 fJ hJ hqq CJ CLJ h9 hlen hc2
          have kl2 := kd_lt37 (T := T) (q := q2)
          have hq2 := tA_n hJ
          have el : (cd ++ (o ++ o2)).length = cd.length + o.length + o2.length := by rw [List.length_append, List.length_append]; omega
          have z4 := CJ.1
          rw [el] at z4
          have hJ2 : tA T q2 (xu (xu J 10 k (nI (cd.length + o.length + o2.length))) 7 5 (nI (k + 1))) := tA_row (by omega) (tA_row (by omega) hJ)
          have C2 : cC (xu (xu J 10 k (nI (cd.length + o.length + o2.length))) 7 5 (nI (k + 1))) c2 (cd ++ (o ++ o2)) := ⟨by rw [xu_c (by decide), xu_r (by decide)]; exact CJ.1, by rw [xu_c (by decide), xu_r (by decide)]; exact CJ.2.1, fun i y hy => by rw [xu_r (by decide), xu_r (by decide)]; exact CJ.2.2 i y hy⟩
          have CL2 : clC (xu (xu J 10 k (nI (cd.length + o.length + o2.length))) 7 5 (nI (k + 1))) (cl ++ [(cd.length + o.length, cd.length + o.length + o2.length)]) := by
            refine ⟨by rw [xu_s, List.length_append, hk]; rfl, fun j t e hj => ?_⟩
            rw [xu_r (b := 9) (by decide), xu_r (b := 9) (by decide), xu_r (b := 10) (by decide)]
            have hi := (List.getElem?_eq_some_iff.mp hj).1
            rw [List.length_append] at hi
            simp only [List.length_cons, List.length_nil] at hi
            by_cases ej : j = cl.length
            · subst ej
              rw [List.getElem?_append_right (Nat.le_refl _), Nat.sub_self] at hj
              cases hj
              rw [hk, xu_s]
              exact ⟨h9, rfl⟩
            · rw [List.getElem?_append_left (by omega)] at hj
              rw [xu_c (by omega)]
              exact CLJ.2 j t e hj
          have f2 : frA I (xu (xu J 10 k (nI (cd.length + o.length + o2.length))) 7 5 (nI (k + 1))) := frA_tr fJ (fun b b1 b2 => by rw [xu_r (by omega), xu_r (by omega)])
          unfold mX4_readAll_114
          rw [if_pos (show inb (nI k) 12 = true from nIn (by omega) (by omega)), nIx (by omega), z4, show nI k + (1 : Int32) = nI (k + 1) by rw [li1, nAdd], kind_ok hJ2, Option.bind_some]
          refine aRes_fr f2 ?_
          by_cases h36 : kd T q2 = 36
          · rw [if_pos h36, if_pos (show nI (kd T q2) = (36 : Int32) by rw [h36]; rfl)]
            exact ⟨_, rfl, ⟨c2, C2⟩, CL2, fun _ _ _ => rfl⟩
          · rw [if_neg h36, if_neg (nNeL (x := 36) (b := 36) rfl (by omega) (by omega) h36), Option.bind_some]
            by_cases h32 : kd T q2 = 32
            · rw [if_pos h32, if_pos (show nI (kd T q2) = (32 : Int32) by rw [h32]; rfl)]
              have kn2 := kd_nx (T := T) (q := q2) (by omega)
              obtain ⟨v5, s3, s4⟩ := step_ok hJ2 kn2.1
              rw [s3, Option.bind_some]
              refine aRes_fr (J := xu (xu (xu J 10 k (nI (cd.length + o.length + o2.length))) 7 5 (nI (k + 1))) 3 4 v5) frA_3 ?_
              cases m with
              | zero => exact absurd h1 (by omega)
              | succ m =>
                exact rlC_go ok m (k + 1) f (nx T q2) c2 _ _ _ (by omega) (by omega) s4 (cC_3 C2) (clC_fr frK_3 CL2) (by rw [List.length_append, hk]; rfl) (by omega) hc2
            · rw [if_neg h32, if_neg (nNeL (x := 32) (b := 32) rfl (by omega) (by omega) h32)]
              exact aFail (k := 0) ok hJ2 (by omega) rfl
        unfold clsT
        cases hv : sumT T (nx T q) c with
        | error e =>
          rw [hv] at so
          obtain ⟨J, v1, v2, v3, v4⟩ := so
          rw [bd_e]
          refine ⟨J, ?_, v2, frA_of (frK_tr frK_3 v4)⟩
          rw [v1, Option.bind_some]
          rfl
        | ok y =>
          obtain ⟨o, q1, c1⟩ := y
          rw [hv] at so
          obtain ⟨J, v1, v2, v3, v4⟩ := so
          have pv := sum_pr (T := T) (q := nx T q) hc _ _ _ hv
          have CL1 := clC_fr v4 CL0
          have kl1 := kd_lt37 (T := T) (q := q1)
          have z4 := v3.1
          rw [List.length_append] at z4
          have hJ : tA T q1 (xu J 9 k (nI (cd.length + o.length))) := tA_row (by omega) v2
          have CJ : cC (xu J 9 k (nI (cd.length + o.length))) c1 (cd ++ o) := ⟨by rw [xu_r (by decide)]; exact v3.1, by rw [xu_r (by decide)]; exact v3.2.1, fun i y hy => by rw [xu_r (by decide)]; exact v3.2.2 i y hy⟩
          have CLJ : clC (xu J 9 k (nI (cd.length + o.length))) cl := ⟨by rw [xu_r (by decide)]; exact CL1.1, fun j t e hj => by
            have hi := (List.getElem?_eq_some_iff.mp hj).1
            rw [xu_c (by omega), xu_r (by decide)]
            exact CL1.2 j t e hj⟩
          have fJ : frA I (xu J 9 k (nI (cd.length + o.length))) := frA_tr (frA_of (frK_tr frK_3 v4)) (fun b b1 b2 => xu_r (by omega))
          rw [v1, Option.bind_some]
          dsimp only
          rw [if_neg (show ¬ nI 1 = (0 : Int32) by decide), if_pos (show inb (nI k) 12 = true from nIn (by omega) (by omega)), nIx (by omega), z4, kind_ok hJ, Option.bind_some, bd_o]
          by_cases h18 : kd T q1 = 18
          · rw [if_pos h18, if_pos (show nI (kd T q1) = (18 : Int32) by rw [h18]; rfl)]
            have kn1 := kd_nx (T := T) (q := q1) (by omega)
            obtain ⟨v5, s3, s4⟩ := step_ok hJ kn1.1
            rw [s3, Option.bind_some]
            have tt := (rd_ok ok 12).2 0 (nx T q1) c1 (cd ++ o) (xu (xu J 9 k (nI (cd.length + o.length))) 3 4 v5) (by omega) (by omega) s4 (cC_3 CJ) (by rw [List.length_append]; omega) (by omega)
            change kRes T _ _ _ (zX4_readTest 12 (xu (xu J 9 k (nI (cd.length + o.length))) 3 4 v5) (0 : Int32)) at tt
            cases hv2 : tstT T (facT T 12 0) (nx T q1) c1 with
            | error e =>
              rw [hv2] at tt
              obtain ⟨K, w1, w2, w3, w4⟩ := tt
              rw [bd_e]
              refine ⟨K, ?_, w2, frA_tr fJ (frA_of (frK_tr frK_3 w4))⟩
              rw [w1, Option.bind_some]
              rfl
            | ok y =>
              obtain ⟨o2, q2, c2⟩ := y
              rw [hv2] at tt
              obtain ⟨K, w1, w2, w3, w4⟩ := tt
              have pv2 := tst_pr (T := T) (fun q c h1 h2 => fac_pr 12 0 q c h1 h2) kn1.2.2 (show c1 ≤ 60 by omega) _ _ _ hv2
              rw [bd_o, w1, Option.bind_some]
              dsimp only
              rw [if_neg (show ¬ nI 1 = (0 : Int32) by decide)]
              have fK := frK_tr (frK_3 (k := 4) (v := v5)) w4
              refine fin K q2 c2 o o2 (frA_tr fJ (frA_of fK)) w2 (by omega) (by rw [show cd ++ (o ++ o2) = cd ++ o ++ o2 by simp]; exact w3) (clC_fr fK CLJ) ?_ (by rw [List.length_append, List.length_append]; omega) (by omega)
              rw [fK 9 k (by decide) (by decide) (by omega), xu_s]
          · rw [if_neg h18, if_neg (nNeL (x := 18) (b := 18) rfl (by omega) (by omega) h18)]
            have f := fin _ q1 c1 o [] fJ hJ (by omega) (by rw [List.append_nil]; exact CJ) CLJ xu_s (by rw [List.append_nil, List.length_append]; omega) (by omega)
            exact f
    · rw [if_neg h17, if_neg (nNeL (x := 17) (b := 17) rfl (by omega) (by omega) h17)]
      exact aFail (k := 0) ok h (by omega) rfl
theorem rlC_ok (ok : okT T) (h : tA T q I) : aRes T I (rlS T 13 0 q 0 [] []) (mX4_readAll I) := by
  have f0 : frA I (xu (xu (xu I 7 4 (nI 0)) 7 5 (nI 0)) 7 6 (nI 0)) := fun b b1 b2 => by rw [xu_r (by omega), xu_r (by omega), xu_r (by omega)]
  exact aRes_fr f0 (rlC_go ok 12 0 xf q 0 [] [] (xu (xu (xu I 7 4 (nI 0)) 7 5 (nI 0)) 7 6 (nI 0)) (by omega) (by unfold xf; omega) (tA_row (by omega) (tA_row (by omega) (tA_row (by omega) h))) ⟨by rw [xu_c (by decide), xu_c (by decide), xu_s]; rfl, xu_s, fun i x hx => by cases hx⟩ ⟨by rw [xu_c (by decide), xu_s]; rfl, fun j t e hj => by cases hj⟩ rfl (Nat.zero_le _) (by omega))
end

/-! street. -/
def txZ (Z : zT) : txT := (fun i => (zP Z).getD i 0, (zP Z).length)
section
variable {n : Nat} {K : Nat → Nat × Nat} {P : Nat → Nat → Nat} {I J : Nat → Nat → Int32} {L : Nat → Nat → Int64} {Z : zT} {k : Nat}
theorem txZ_get {i : Nat} (hi : i < (zP Z).length) : (zP Z)[i]? = some ((zP Z).getD i 0) := by
  rw [List.getD_eq_getElem?_getD, List.getElem?_eq_getElem hi]; rfl
theorem okT_Z (ok : okZ k Z) : okT (txZ Z) := ⟨ok.2.2.2.1, fun i hi => ok.2.2.2.2 _ (List.mem_of_getElem? (txZ_get hi))⟩
theorem txC_Z (C : CI (n, K, P, I, L) Z) : txC I (txZ Z) := fun i hi => C.2.2.2.2.2 i _ (txZ_get hi)
theorem txR_Z (R : RI I Z) : txR I (txZ Z) := ⟨R.2.2.2.1.1, fun i hi => R.2.2.2.1.2 i _ (txZ_get hi)⟩
end
theorem q_street {k : Nat} (hk : k < 512) : st_street (Inv k) (Inv (k + 1)) := by
  intro h hI
  obtain ⟨n, K, P, I, L⟩ := h
  obtain ⟨⟨G, F⟩, Z, ok, C, R⟩ := id hI
  change RI I Z at R
  have O := okZ_S ok
  have o1 := O.1
  have hA := okZ_A ok
  have hh := okZ_h ok
  have cs := CI_S C
  have ca := CI_A C
  have rs := RI_S R
  have ra := RI_A R
  generalize hS : wS (zW Z) = S at O o1 hA cs ca rs ra
  generalize hAA : wA (zW Z) = A at hA hh ca ra
  have hn : 171 ≤ n := Fr_le F (g_K171 G) (by decide)
  have okt := okT_Z ok
  obtain ⟨I1, t1, t2, t3, t4⟩ := takeTape_ok okt (txC_Z C) C.2.2.2.2.1
  have GD := gw_rd (h := (n, K, P, I1, L)) G F
  have FD := Fr_rd (h := (n, K, P, I1, L)) F
  have D1 := hRd_1 (n, K, P, I1, L)
  have DK := fun b hb => hRd_K (h := (n, K, P, I1, L)) (b := b) hb
  have DP := fun b hb => hRd_P (h := (n, K, P, I1, L)) (b := b) hb
  have DI := fun b hb => hRd_IL (h := (n, K, P, I1, L)) (b := b) hb
  have D0 := hRd_0 (n, K, P, I1, L)
  have DA := (hRd_at (n, K, P, I1, L)).2.1
  have em : mX11_street (n, K, P, I, L) = Option.bind (mX8_readAll (hRd (n, K, P, I1, L)).2.2.2.1 (hRd (n, K, P, I1, L)).2.2.2.2 (n + 1)) (fun q2 => if q2.1 = 0 then some ((-2 : Int32) - q2.2.1 3 5, ((hRd (n, K, P, I1, L)).1, (hRd (n, K, P, I1, L)).2.1, (hRd (n, K, P, I1, L)).2.2.1, q2.2.1, q2.2.2)) else Option.bind (mX10_begin (hRd (n, K, P, I1, L)).2.2.1 q2.2.1 q2.2.2 (n + 2)) (fun q3 => some (q3.2.1 (q3.1 12 0) 6, ((hRd (n, K, P, I1, L)).1, (hRd (n, K, P, I1, L)).2.1, q3.1, q3.2.1, q3.2.2)))) := by
    unfold mX11_street
    change Option.bind (mX11_takeTape I) _ = _
    rw [t1, Option.bind_some]
    rfl
  generalize hRd (n, K, P, I1, L) = D at *
  change D.1 = n + 12 at D1
  change ∀ b, b ≤ n → D.2.1 b = K b at DK
  change ∀ b, b ≤ n → D.2.2.1 b = P b at DP
  change ∀ b, b ≤ n → D.2.2.2.1 b = I1 b ∧ D.2.2.2.2 b = L b at DI
  change ∀ b k, n < b → b ≤ n + 12 → D.2.2.2.1 b k = 0 ∧ D.2.2.2.2 b k = 0 at D0
  change D.2.1 (n + 2) = (6, 0) at DA
  obtain ⟨Dn, DK', DP', DI', DL'⟩ := D
  change Dn = n + 12 at D1
  change ∀ b, b ≤ n → DK' b = K b at DK
  change ∀ b, b ≤ n → DP' b = P b at DP
  change ∀ b, b ≤ n → DI' b = I1 b ∧ DL' b = L b at DI
  change ∀ b k, n < b → b ≤ n + 12 → DI' b k = 0 ∧ DL' b k = 0 at D0
  change DK' (n + 2) = (6, 0) at DA
  change GW DK' DP' at GD
  subst D1
  have tD : tA (txZ Z) (sk (txZ Z) 0) DI' := tA_congr (fun b h1 h2 => (DI b (by omega)).1) (by rw [(DI 3 (by omega)).1]) (by rw [(DI 3 (by omega)).1]) t2
  have CU : cU DI' DL' (n + 1 + 1) u0 := by
    refine ⟨⟨?_, ?_, ?_, ?_, ?_, ?_, ?_, ?_⟩, fun t ht => absurd ht (Nat.not_lt_zero _), fun t ht => absurd ht (Nat.not_lt_zero _), fun t ht => absurd ht (Nat.not_lt_zero _), fun c hc => (D0 _ _ (by omega) (by omega)).2, ?_, ?_⟩ <;> exact (D0 _ _ (by omega) (by omega)).1
  have rd := rAll_go (a := n + 1) okt (by omega) 40 0 xf (sk (txZ Z) 0) u0 DI' DL' (by omega) (by unfold xf; omega) okU_0 CU tD (Or.inl rfl)
  change cFin (txZ Z) (n + 1) DI' DL' (rdS (txZ Z) 41 0 (sk (txZ Z) 0) u0) (mX8_readAll DI' DL' (n + 1)) at rd
  have i1 : ∀ b, b ≤ n → 10 < b → DI' b = I b ∧ DL' b = L b := fun b h1 h2 => ⟨(DI b h1).1.trans (funext fun j => t4 b j (by omega) (by omega)), (DI b h1).2⟩
  have d15 : DI' 1 5 = I 1 5 := by rw [(DI 1 (by omega)).1]; exact t4 1 5 (by omega) (by omega)
  have d11 : DI' 1 1 = nI 0 := by rw [(DI 1 (by omega)).1]; exact t3
  have ref : ∀ J M : _, (∀ b, b ≠ 3 → b < n + 1 + 1 ∨ n + 1 + 11 < b → J b = DI' b ∧ M b = DL' b) → CI (n + 12, DK', DP', J, M) (zW Z, zM Z, zR Z, []) := fun J M hJ => CI_ext0 ok hn (by omega) DK DP (fun b h1 h2 => by
      have a := hJ b (by omega) (by omega)
      have c := i1 b h1 (by omega)
      exact ⟨a.1.trans c.1, a.2.trans c.2⟩) (by rw [(hJ 1 (by omega) (by omega)).1]; exact d15) (by rw [(hJ 1 (by omega) (by omega)).1]; exact d11) C
  cases hr : rdS (txZ Z) 41 0 (sk (txZ Z) 0) u0 with
  | error e =>
    rw [hr] at rd
    obtain ⟨J, M, r1, r2, r3⟩ := rd
    have RJ : RI J Z := RI_cls ok (fun b h1 h2 => by rw [(r3 b (by omega) (by omega)).1, (i1 b (by omega) (by omega)).1]) R
    obtain ⟨H, s1, s2, s3, s4⟩ := rStreet_e okt (txR_Z RJ) RJ.2.2.2.2.2 hr
    have okn : okZ (k + 1) (zW Z, zM Z, zR Z, []) := by
      have o := okZ_mono (Nat.le_succ k) ok
      exact ⟨o.1, o.2.1, o.2.2.1, Nat.zero_le _, fun x hx => by cases hx⟩
    have RH : RI H (zW Z, zM Z, zR Z, []) := RI_txt ok RJ (rW_congr ok.1 (fun r i hi => s4 r i (by
        rcases Nat.lt_or_ge r 141 with c | c
        · exact Or.inl c
        · rcases Nat.lt_or_ge 149 r with d | d
          · exact Or.inr d
          · rw [lenR_off (by omega)] at hi; omega) (by have := lenR_ne hi; omega)) (s4 123 51 (by omega) (by omega)) RJ.1) (s4 123 31 (by omega) (by omega)) s2 (s4 123 36 (by omega) (by omega)) s3 (fun b h1 h2 => funext fun j => s4 b j (by omega) (by omega))
    refine ⟨(-2 : Int32) - nI e, (n + 12, DK', DP', J, M), (n + 12, DK', DP', H, M), ?_, GD, ?_, Inv_ref (I := J) (L := M) GD FD okn (ref J M r3) RH (fun b hb => funext fun j => s4 b j (by omega) (by omega)) (fun _ _ => rfl)⟩
    · unfold oX_street
      rw [em]
      change Option.bind (mX8_readAll DI' DL' (n + 1)) _ = _
      rw [r1, Option.bind_some]
      dsimp only
      rw [if_pos (show nI 0 = (0 : Int32) from rfl), r2]
    · unfold oM_street
      change Option.map _ (mX12_street J) = _
      rw [s1]; rfl
  | ok U =>
    rw [hr] at rd
    obtain ⟨J, M, r1, r2, r3, r4, r5, r6⟩ := rd
    have fo := finU_okA r4
    obtain ⟨J2, M2, b1, b2, b3, b4⟩ := copyState_ok (a0 := 24) (a1 := n + 1 + 9) r4.1 (by omega) r3
    have C0 := ref J M r6
    have p2 : ∀ b, b ≤ n → xu (xu J2 12 3 (nI 0)) 12 7 (nI 0) b = (if b = 12 then xu (xu J2 12 3 (nI 0)) 12 7 (nI 0) 12 else J2 b) := fun b hb => by
      by_cases e : b = 12
      · rw [if_pos e, e]
      · rw [if_neg e, xu_r e, xu_r e]
    have q12 : ∀ i, i ≠ 3 → i ≠ 7 → xu (xu J2 12 3 (nI 0)) 12 7 (nI 0) 12 i = I 12 i := fun i h3 h7 => by
      rw [xu_c h7, xu_c h3, b3 12 (by decide) (by decide), (r6 12 (by omega) (by omega)).1, (i1 12 (by omega) (by omega)).1]
    have fr : ∀ b, b ≠ 3 → b ≠ 12 → b ≠ 24 → b ≠ 26 → b < n + 1 + 1 ∨ n + 1 + 11 < b → xu (xu J2 12 3 (nI 0)) 12 7 (nI 0) b = DI' b := fun b h0 h1 h2 h3 h4 => by rw [xu_r h1, xu_r h1, b3 b h2 h3, (r6 b h0 h4).1]
    have fj : ∀ b, b ≠ 12 → b ≠ 24 → b ≠ 26 → xu (xu J2 12 3 (nI 0)) 12 7 (nI 0) b = J b := fun b h1 h2 h3 => by rw [xu_r h1, xu_r h1, b3 b h2 h3]
    have hW : cW (xu DP' 12 0 (n + 2)) (xu (xu J2 12 3 (nI 0)) 12 7 (nI 0)) M2 12 (U.1, finU U, finU U, [], [], wX (zW Z), wF (zW Z)) := by
      refine ⟨⟨?_, ?_⟩, ?_, ⟨by rw [xu_c (by decide), xu_s]; rfl, fun j B hB => by cases hB⟩, ⟨by rw [xu_s]; rfl, fun j a t o hj => by cases hj⟩, ?_, ?_⟩
      · rw [xu_s]
        exact cS_congr (fun b h1 h2 => fj b (by omega) (by omega) (by omega)) r2
      · rw [xu_s]
        exact cA_congr (fj _ (by omega) (by omega) (by omega)) (fj _ (by omega) (by omega) (by omega)) (b4 _ (by omega)) r3
      · refine cA_congr ?_ ?_ rfl b2
        · rw [xu_r (by decide), xu_r (by decide)]
        · rw [xu_r (by decide), xu_r (by decide)]
      · rw [q12 8 (by decide) (by decide)]; exact C.1.1.2.2.2.2.1
      · rw [q12 9 (by decide) (by decide)]; exact C.1.1.2.2.2.2.2
    have okn0 : okZ k (zW Z, zM Z, zR Z, []) := ⟨ok.1, ok.2.1, ok.2.2.1, Nat.zero_le _, fun x hx => by cases hx⟩
    have p91 : DP' 91 = P 91 := DP 91 (by omega)
    have hpl : plZ (n + 12) DP' (n + 2) := by
      right
      refine ⟨by omega, by omega, fun j hj h0 => ?_⟩
      have hm := C.2.2.1.1 j hj
      change cM n P I L j (zM Z j) at hm
      rw [p91] at h0 ⊢
      cases hz : zM Z j with
      | none => rw [hz] at hm; exact absurd hm h0
      | some V =>
        rw [hz] at hm
        have := hm.1.2
        omega
    have C1 : CI (n + 12, DK', xu DP' 12 0 (n + 2), xu (xu J2 12 3 (nI 0)) 12 7 (nI 0), M2) ((U.1, finU U, finU U, [], [], wX (zW Z), wF (zW Z)), zM Z, zR Z, []) := by
      refine CI_now (Z := (zW Z, zM Z, zR Z, [])) okn0 C0 hW (by rw [xu_s]; exact hpl) (by rw [xu_r (by decide)]; exact C0.2.1) (fun b hb => ⟨fj b (by omega) (by omega) (by omega), b4 b (by omega)⟩) (fun b hb => xu_r (by omega))
    have RJ : RI (xu (xu J2 12 3 (nI 0)) 12 7 (nI 0)) Z := RI_cls ok (fun b h1 h2 => by rw [fr b (by omega) (by omega) (by omega) (by omega) (by omega), (i1 b (by omega) (by omega)).1]) R
    obtain ⟨H, s1, s2, s3, s4, s5, s6, s7⟩ := rStreet_o okt (txR_Z RJ) RJ.2.2.2.2.2 hr r4
    have ow := okW_mono (Nat.le_succ k) (Nat.le_refl _) ok.1
    have okn : okZ (k + 1) ((U.1, finU U, finU U, [], [], wX (zW Z), wF (zW Z)), zM Z, zR Z, []) := by
      refine okZ_now (Z := (zW Z, zM Z, zR Z, [])) okn0 (Nat.le_succ k) ⟨r4.1, fo, ⟨fo.1, ?_⟩, ⟨Nat.zero_le _, fun B hB => by cases hB⟩, ⟨Nat.zero_le _, fun e he => by cases he⟩, ow.2.2.2.2.2.1, ow.2.2.2.2.2.2⟩
      show (finU U).2.2.1 ≤ k + 1
      rw [fo.2.2]; exact Nat.zero_le _
    have RH : RI H ((U.1, finU U, finU U, [], [], wX (zW Z), wF (zW Z)), zM Z, zR Z, []) := by
      refine RI_txt ok RJ ⟨s2, s3, s4, ⟨s6.1, fun j B hB => by cases hB⟩, ⟨s5.1, fun j a t o hj => by cases hj⟩, ?_, ?_⟩ s6.2.2.2.1 s6.2.1 s6.2.2.2.2 s6.2.2.1 (fun b h1 h2 => s7 b (by omega))
      · exact s5.2.1.trans RJ.1.2.2.2.2.2.1
      · exact s5.2.2.trans RJ.1.2.2.2.2.2.2
    have G1 : GW DK' (xu DP' 12 0 (n + 2)) := gw_upd GD 12 0 (n + 2) (Or.inl ⟨g_K12 GD, rfl, DA⟩)
    refine ⟨nI (sCe U.1), (n + 12, DK', xu DP' 12 0 (n + 2), xu (xu J2 12 3 (nI 0)) 12 7 (nI 0), M2), (n + 12, DK', xu DP' 12 0 (n + 2), H, M2), ?_, G1, ?_, Inv_ref G1 FD okn C1 RH (fun b hb => s7 b (by omega)) (fun _ _ => rfl)⟩
    · have bg : mX10_begin DP' J M (n + 2) = some (xu DP' 12 0 (n + 2), xu (xu J2 12 3 (nI 0)) 12 7 (nI 0), M2) := by
        unfold mX10_begin
        change Option.bind (mX6_copyFrom J M 24 (n + 1 + 9)) _ = _
        rw [b1]; rfl
      unfold oX_street
      rw [em]
      change Option.bind (mX8_readAll DI' DL' (n + 1)) _ = _
      rw [r1, Option.bind_some]
      dsimp only
      rw [if_neg (show ¬ nI 1 = (0 : Int32) by decide), bg, Option.bind_some]
      dsimp only
      rw [xu_s (f := DP'), fj (n + 2) (by omega) (by omega) (by omega), r2.1.2.2.2.2.2.2.1]
    · unfold oM_street
      change Option.map _ (mX12_street (xu (xu J2 12 3 (nI 0)) 12 7 (nI 0))) = _
      rw [s1]; rfl

/-! ruled. -/
section
variable {S : sT} {l : lgT} {I0 : Nat → Nat → Int32} {la : Int}
theorem cr_go {ru : Option ruT} (O : okS S) (ol : okLg S l) (hla1 : -1 ≤ la) (hla2 : la ≤ 99) : ∀ (f n h : Nat) (B : aT × (Nat → Nat)) (all : Bool) (I : Nat → Nat → Int32) (L : Nat → Nat → Int64), n < f → n + h = 100 → okA S B.1 → B.1.2.2.1 = h → rSn I S → rAn I S B.1 → rRo I ru → gotR 161 I B.2 → rLg I l → sv I0 I → aR I0 I → ∃ H M, mX12_couldRule_17 f I L (zI la) (bI all) (nI h) = some (bI (all && hF S ru l n h B), H, M) ∧ f5 I0 H ∧ aR I0 H ∧ sv I0 H ∧ (∀ b, b ≠ 158 → b ≠ 159 → M b = L b) ∧ (∀ i, H 169 i = I 169 i) ∧ (la < h → ∀ i, H 168 i = I 168 i) ∧ ∀ m : Nat, la = h + m → ∀ t, t < sTh S → H 168 t = zI (ownT S (goA S ru m B).1 t (sPart S))
  | 0, n, h, B, all, I, L, h1, _, _, _, _, _, _, _, _, _, _ => absurd h1 (by omega)
  | f + 1, n, h, B, all, I, L, h1, h2, hA, hB, R, RA, U, hg, Rl, s, a => by
    have o1 := O.1
    rw [mX12_couldRule_17]
    cases n with
    | zero =>
      obtain ⟨H, l1, l2, l3, l4⟩ := laysBack_ok s
      refine ⟨H, L, ?_, l2, aR_trans a l3, fun r i q1 q2 => (l4 170 _ (by unfold fv; decide) (Or.inl (by decide))).trans (s r i q1 q2), fun _ _ _ => rfl, fun i => l4 169 i (by unfold fv; decide) (Or.inl (by decide)), fun _ i => l4 168 i (by unfold fv; decide) (Or.inl (by decide)), fun m hm => absurd hm (by omega)⟩
      rw [show hF S ru l 0 h B = true from rfl, Bool.and_true]
      simp (disch := omega) only [↓reduceIte, Option.bind_some, Option.some.injEq, Prod.mk.injEq, and_self, and_true, true_and, eq_self, reduceCtorEq, not_false_eq_true, not_true_eq_false, or_true, true_or, or_false, false_or, bft, nAdd, nMul, nSub, nDiv, nRem, nAm1, nIx, nIn, bI_z, bI_o, ite_b1, ite_b0, zI_add, zI_sub, li0, li1, li2, li3, li4, li5, li6, li7, li8, li9, li10, li11, li12, li13, li14, li15, li16, li17, li18, li19, li20, li21, li22, li23, li24, li25, li26, li27, li28, li29, li30, li31, li32, li33, li34, li35, li36, li37, li40, li42, li43, li45, li47, li48, li57, li59, li60, li61, li62, li64, li80, li91, li93, li97, li99, li100, li122, li182, li199, li255, li300, li380, li400, li999, li1000, li3640, li4100, li65536, li99999, ln1, ln2, ln3, ln100, ln100000, tLe, fLe, tLt, fLt, tEq, fEq, zLe_t, zLe_f, zLt_t, zLt_f, zEq_t, zEq_f, nzLe_t, nzLe_f, znLe_t, znLe_f, nzLt_t, nzLt_f, znLt_t, znLt_f, nzEq_t, nzEq_f, znEq_t, znEq_f, l1]
    | succ n =>
      -- the logs of this hour
      have logs : ∃ all2 J1, all2 = (all && lgH S B.1 l h) ∧ (∀ b, b ≠ 160 → J1 b = I b) ∧ mX12_couldRule_17 (f + 1) I L (zI la) (bI all) (nI h) = mX12_couldRule_42 (fun I L a2 a3 a4 => mX12_couldRule_17 f I L a2 a3 a4) J1 L (zI la) (nI h) (bI all2) := by
        cases all with
        | false =>
          refine ⟨false, I, by rw [Bool.false_and], fun _ _ => rfl, ?_⟩
          rw [mX12_couldRule_17, li99, if_neg (fun z => absurd ((nLt (by omega) (by omega)).mp z) (by omega)), if_pos (by decide), mX12_couldRule_41]
          rfl
        | true =>
          obtain ⟨J1, p1, p2⟩ := so_go O hA (by omega) ol (show h < 1000 by omega) xf l.length 0 true I (by have := ol.1; unfold xf; omega) (by omega) R RA Rl
          rw [List.drop_zero, Bool.true_and] at p1
          change mX12_areLogsSo I (nI h) = _ at p1
          refine ⟨lgH S B.1 l h, J1, by rw [Bool.true_and], p2, ?_⟩
          rw [mX12_couldRule_17, li99, if_neg (fun z => absurd ((nLt (by omega) (by omega)).mp z) (by omega)), if_neg (by decide), p1, Option.bind_some]
          cases lgH S B.1 l h with
          | false => rw [if_pos (show bI false = 0 by decide), mX12_couldRule_41]; rfl
          | true => rw [if_neg (show ¬ bI true = 0 by decide)]; rfl
      obtain ⟨all2, J1, e2, p2, q1⟩ := logs
      rw [mX12_couldRule_17] at q1
      rw [q1, mX12_couldRule_42]
      have R1 := rSn_congr p2 R
      have RA1 := rAn_congr p2 RA
      have F1 := f160 p2
      -- shown or not
      have shown : ∃ J2, mX12_couldRule_46 (fun I_13 L_13 a2_13 a3_13 a4_13 => (mX12_couldRule_82 (fun I L a2 a3 a4 => mX12_couldRule_17 f I L a2 a3 a4) I_13 L_13 a2_13 a3_13 a4_13)) xf J1 L (zI la) (bI all2) (nI h) (0 : Int32) = mX12_couldRule_82 (fun I L a2 a3 a4 => mX12_couldRule_17 f I L a2 a3 a4) J2 L (zI la) (bI all2) (nI h) ∧ (∀ b, b ≠ 160 → b ≠ 168 → J2 b = J1 b) ∧ (la < h → ∀ i, J2 168 i = J1 168 i) ∧ (la = h → ∀ t, t < sTh S → J2 168 t = zI (ownT S B.1 t (sPart S))) := by
        by_cases q : la = h
        · subst q
          obtain ⟨J2, j1, j2, j3, j4⟩ := shown_go (A := B.1) (e82 := fun I_13 L_13 a2_13 a3_13 a4_13 => (mX12_couldRule_82 (fun I L a2 a3 a4 => mX12_couldRule_17 f I L a2 a3 a4) I_13 L_13 a2_13 a3_13 a4_13)) (L := L) (a2 := nI h) (a3 := bI all2) O hA (by omega) xf (sTh S) 0 J1 (by unfold xf; omega) (by omega) R1 RA1
          refine ⟨J2, ?_, j4, fun c => absurd c (by omega), fun _ t ht => j2 t (by omega) ht⟩
          rw [zI_nat]
          exact j1
        · refine ⟨J1, ?_, fun _ _ _ => rfl, fun _ _ => rfl, fun c => absurd c q⟩
          rw [xf_s, mX12_couldRule_46]
          by_cases z : sTh S = 0
          · simp (disch := omega) only [↓reduceIte, Option.bind_some, Option.some.injEq, Prod.mk.injEq, and_self, and_true, true_and, eq_self, reduceCtorEq, not_false_eq_true, not_true_eq_false, or_true, true_or, or_false, false_or, bft, nAdd, nMul, nSub, nDiv, nRem, nAm1, nIx, nIn, bI_z, bI_o, ite_b1, ite_b0, zI_add, zI_sub, li0, li1, li2, li3, li4, li5, li6, li7, li8, li9, li10, li11, li12, li13, li14, li15, li16, li17, li18, li19, li20, li21, li22, li23, li24, li25, li26, li27, li28, li29, li30, li31, li32, li33, li34, li35, li36, li37, li40, li42, li43, li45, li47, li48, li57, li59, li60, li61, li62, li64, li80, li91, li93, li97, li99, li100, li122, li182, li199, li255, li300, li380, li400, li999, li1000, li3640, li4100, li65536, li99999, ln1, ln2, ln3, ln100, ln100000, tLe, fLe, tLt, fLt, tEq, fEq, zLe_t, zLe_f, zLt_t, zLt_f, zEq_t, zEq_f, nzLe_t, nzLe_f, znLe_t, znLe_f, nzLt_t, nzLt_f, znLt_t, znLt_f, nzEq_t, nzEq_f, znEq_t, znEq_f, rSn_th R1]
          · simp (disch := omega) only [↓reduceIte, Option.bind_some, Option.some.injEq, Prod.mk.injEq, and_self, and_true, true_and, eq_self, reduceCtorEq, not_false_eq_true, not_true_eq_false, or_true, true_or, or_false, false_or, bft, nAdd, nMul, nSub, nDiv, nRem, nAm1, nIx, nIn, bI_z, bI_o, ite_b1, ite_b0, zI_add, zI_sub, li0, li1, li2, li3, li4, li5, li6, li7, li8, li9, li10, li11, li12, li13, li14, li15, li16, li17, li18, li19, li20, li21, li22, li23, li24, li25, li26, li27, li28, li29, li30, li31, li32, li33, li34, li35, li36, li37, li40, li42, li43, li45, li47, li48, li57, li59, li60, li61, li62, li64, li80, li91, li93, li97, li99, li100, li122, li182, li199, li255, li300, li380, li400, li999, li1000, li3640, li4100, li65536, li99999, ln1, ln2, ln3, ln100, ln100000, tLe, fLe, tLt, fLt, tEq, fEq, zLe_t, zLe_f, zLt_t, zLt_f, zEq_t, zEq_f, nzLe_t, nzLe_f, znLe_t, znLe_f, nzLt_t, nzLt_f, znLt_t, znLt_f, nzEq_t, nzEq_f, znEq_t, znEq_f, rSn_th R1]
      obtain ⟨J2, s1, s2, s3, s4⟩ := shown
      have R2 : rSn J2 S := by
        unfold rSn at R1 ⊢
        rw [s2 124 (by decide) (by decide), s2 125 (by decide) (by decide), s2 126 (by decide) (by decide), s2 127 (by decide) (by decide), s2 129 (by decide) (by decide), s2 130 (by decide) (by decide)]
        exact R1
      have RA2 : rAn J2 S B.1 := by
        unfold rAn at RA1 ⊢
        rw [s2 124 (by decide) (by decide), s2 128 (by decide) (by decide), s2 131 (by decide) (by decide), s2 132 (by decide) (by decide), s2 133 (by decide) (by decide)]
        exact RA1
      have e12 : ∀ b, b ≠ 160 → b ≠ 168 → J2 b = I b := fun b q1 q2 => (s2 b q1 q2).trans (p2 b q1)
      have U2 : rRo J2 ru := by
        cases ru with
        | none => exact (congrFun (e12 124 (by decide) (by decide)) 12).trans U
        | some r =>
          obtain ⟨sl, h1, h2, h3, h4⟩ := U
          exact ⟨sl, h1, (congrFun (e12 124 (by decide) (by decide)) 12).trans h2, rR_congr (fun b h5 h6 => e12 b (by omega) (by omega)) h3, h4⟩
      have Rl2 : rLg J2 l := by
        unfold rLg at Rl ⊢
        rw [e12 124 (by decide) (by decide), e12 134 (by decide) (by decide), e12 135 (by decide) (by decide), e12 136 (by decide) (by decide)]
        exact Rl
      have hg2 : gotR 161 J2 B.2 := fun u hu => by rw [e12 161 (by decide) (by decide)]; exact hg u hu
      have sv2 : sv I0 J2 := fun r i q1 q2 => by rw [e12 170 (by decide) (by decide)]; exact s r i q1 q2
      have aR2 : aR I0 J2 := aR_trans a ⟨fun b i q1 q2 q3 q4 => by rw [e12 b (by omega) (by omega)], fun j _ => by rw [e12 170 (by decide) (by decide)]⟩
      obtain ⟨J3, M1, g1, g2, g3, g4, g5⟩ := goes_ok (L := L) (n := 1) O hA (by omega) R2 RA2 U2 hg2
      obtain ⟨b1, b2, b3⟩ := okA_pass O ru hA (by omega) B.2
      obtain ⟨H, M, u1, u2, u3, u4, u5, u6, u7, u8⟩ := cr_go (ru := ru) O ol hla1 hla2 f n (h + 1) (passA S ru B.1 B.2).1 all2 J3 M1 (by omega) (by omega) b1 (by omega) (rSn_f g4 R2) g2 (rRo_f g4 U2) g3 (rLg_f g4 Rl2) (sv_f g4 sv2) (aR_trans aR2 (aR_f g4))
      have e168 : J3 168 = J2 168 := g4.2 168 (by decide) (by decide) (by decide) (by decide) (by decide) (by decide) (by decide)
      have e169 : J3 169 = J2 169 := g4.2 169 (by decide) (by decide) (by decide) (by decide) (by decide) (by decide) (by decide)
      refine ⟨H, M, ?_, u2, u3, u4, fun b q1 q2 => (u5 b q1 q2).trans (g5 b q1 q2), fun i => by rw [u6 i, e169, e12 169 (by decide) (by decide)], fun hl i => by rw [u7 (by omega) i, e168, s3 hl i, p2 168 (by decide)], fun m hm t ht => ?_⟩
      · rw [s1, mX12_couldRule_82, show (1 : Int32) = nI 1 from rfl, g1, Option.bind_some, show nI h + nI 1 = nI (h + 1) from nAdd h 1, u1, e2, hF, Bool.and_assoc]
      · cases m with
        | zero => rw [u7 (by omega) t, e168]; exact s4 (by omega) t ht
        | succ m => exact u8 m (by omega) t ht
end
/-- what the questions about rules rest on -/
def rB (I : Nat → Nat → Int32) (S : sT) (T : aT) (l : lgT) (rs : List ruT) : Prop := rSn I S ∧ rT0 I S T ∧ rLg I l ∧ (I 123 31 = nI rs.length ∧ ∀ r ru, rs[r]? = some ru → rR I r ru)
theorem rB_of {I H : Nat → Nat → Int32} {S : sT} {T : aT} {l : lgT} {rs : List ruT} (O : okS S) (hT : okA S T) (f : f5 I H) (a : aR I H) (R : rB I S T l rs) : rB H S T l rs := by
  have e : ∀ b i, 124 < b → b < 157 → ¬ fv b → H b i = I b i := fun b i h1 h2 h3 => a.1 b i h3 (by omega) (by omega) (Or.inl (by omega))
  obtain ⟨r1, r2, r3, r4, r5⟩ := R
  refine ⟨rS_congr O (fun i hi => f 124 i (Or.inl rfl) (show i < 13 by omega)) (fun i _ => e 125 i (by decide) (by decide) (by unfold fv; decide)) (fun i _ => e 126 i (by decide) (by decide) (by unfold fv; decide)) (fun i _ => e 127 i (by decide) (by decide) (by unfold fv; decide)) (fun i _ => e 129 i (by decide) (by decide) (by unfold fv; decide)) (fun i _ => e 130 i (by decide) (by decide) (by unfold fv; decide)) r1, ⟨fun c hc hb => ⟨(e 137 c (by decide) (by decide) (by unfold fv; decide)).trans (r2.1 c hc hb).1, fun i x hx => (e 138 _ (by decide) (by decide) (by unfold fv; decide)).trans ((r2.1 c hc hb).2 i x hx)⟩, fun q hq => (e 139 q (by decide) (by decide) (by unfold fv; decide)).trans (r2.2.1 q hq), (e 140 0 (by decide) (by decide) (by unfold fv; decide)).trans r2.2.2⟩, ⟨(f 124 10 (by unfold fv; decide) (show 10 < 13 by decide)).trans r3.1, fun j n t o hj => ?_⟩, ⟨(a.1 123 31 (by unfold fv; decide) (by decide) (by decide) (by decide)).trans r4, fun r ru hr => rR_congr (fun b h5 h6 => funext (fun i => e b i (by omega) (by omega) (by unfold fv; omega))) (r5 r ru hr)⟩⟩
  rw [e 134 j (by decide) (by decide) (by unfold fv; decide), e 135 j (by decide) (by decide) (by unfold fv; decide), e 136 j (by decide) (by decide) (by unfold fv; decide)]
  exact r3.2 j n t o hj
theorem could_ok {S : sT} {T : aT} {l : lgT} {rs : List ruT} {I0 I : Nat → Nat → Int32} {L : Nat → Nat → Int64} {r la : Int} (O : okS S) (hT : okA S T) (h4 : ∀ c, c < sCe S → ∀ x ∈ T.1 c, x / 4 = 1) (h0 : T.2.2.1 = 0) (ol : okLg S l) (hla1 : -1 ≤ la) (hla2 : la ≤ 99) (hlen : rs.length ≤ 6) (hok : ∀ ru ∈ rs, okRu ru) (hr1 : -1 ≤ r) (hr2 : r < rs.length) (R0 : rB I0 S T l rs) (f : f5 I0 I) (a : aR I0 I) (s : sv I0 I) : ∃ H M, mX12_couldRule I L (zI r) (zI la) = some (bI (hF S (ruF rs r) l 100 0 (T, fun _ => 0)), H, M) ∧ f5 I0 H ∧ aR I0 H ∧ sv I0 H ∧ (∀ b, b ≠ 158 → b ≠ 159 → M b = L b) ∧ (∀ i, H 169 i = I 169 i) ∧ ∀ m : Nat, la = m → ∀ t, t < sTh S → H 168 t = zI (ownT S (goA S (ruF rs r) m (T, fun _ => 0)).1 t (sPart S)) := by
  have R := rB_of O hT f a R0
  obtain ⟨r1, r2, r3, r4, r5⟩ := R
  have x1 : ∀ b, b ≠ 124 → xu I 124 12 (zI r) b = I b := fun b hb => xu_r hb
  have R1 : rSn (xu I 124 12 (zI r)) S := by
    unfold rSn at r1 ⊢
    rw [x1 125 (by decide), x1 126 (by decide), x1 127 (by decide), x1 129 (by decide), x1 130 (by decide)]
    exact ⟨fun i hi => (xu_c (by omega)).trans (r1.1 i hi), r1.2⟩
  have T1 : rT0 (xu I 124 12 (zI r)) S T := by
    unfold rT0 at r2 ⊢
    rw [x1 137 (by decide), x1 138 (by decide), x1 139 (by decide), x1 140 (by decide)]
    exact r2
  obtain ⟨J, b1, b2, b3, b4⟩ := begins_ok O hT h4 h0 R1 T1
  have e : ∀ b, ¬ fv b → J b = I b := fun b hb => (b4 b hb).trans (x1 b (by unfold fv at hb; omega))
  have RJ : rSn J S := by
    unfold rSn at R1 ⊢
    rw [b4 125 (by unfold fv; decide), b4 126 (by unfold fv; decide), b4 127 (by unfold fv; decide), b4 129 (by unfold fv; decide), b4 130 (by unfold fv; decide)]
    exact ⟨fun i hi => (b3 i (by omega) (by omega)).trans (R1.1 i hi), R1.2⟩
  have LJ : rLg J l := by
    unfold rLg at r3 ⊢
    rw [b3 10 (by decide) (by decide), xu_c (by decide), e 134 (by unfold fv; decide), e 135 (by unfold fv; decide), e 136 (by unfold fv; decide)]
    exact r3
  have UJ : rRo J (ruF rs r) := rRo_of hlen hok (by rw [b3 12 (by decide) (by decide), xu_s]) (fun q ru hq => rR_congr (fun b h5 h6 => e b (by unfold fv; omega)) (r5 q ru hq)) hr1 hr2
  obtain ⟨g, hg⟩ := gotR_ex 161 J
  obtain ⟨H, M, u1, u2, u3, u4, u5, u6, u7, u8⟩ := cr_go (ru := ruF rs r) (I0 := I0) (la := la) O ol hla1 hla2 xf 100 0 (T, g) true J L (by unfold xf; omega) (by omega) hT h0 RJ b2 UJ hg LJ (fun q i q1 q2 => by rw [e 170 (by unfold fv; decide)]; exact s q i q1 q2) (aR_trans a ⟨fun b i q1 _ _ _ => by rw [e b q1], fun j _ => by rw [e 170 (by unfold fv; decide)]⟩)
  refine ⟨H, M, ?_, u2, u3, u4, u5, fun i => by rw [u6 i, e 169 (by unfold fv; decide)], fun m hm t ht => ?_⟩
  · unfold mX12_couldRule
    rw [b1, Option.bind_some]
    change mX12_couldRule_17 xf J L (zI la) (bI true) (nI 0) = _
    rw [u1, Bool.true_and, hF_g 100 0 T g (fun _ => 0)]
  · rw [u8 m (by omega) t ht, goA_g m T g (fun _ => 0)]
/-- how many rules are so, and the first -/
def rdF (S : sT) (T : aT) (l : lgT) (rs : List ruT) : Nat → Int → Nat → Int → Nat × Int
  | 0, _, c, f => (c, f)
  | n + 1, r, c, f => if hF S (ruF rs r) l 100 0 (T, fun _ => 0) = true then rdF S T l rs n (r + 1) (c + 1) (if c = 0 then r else f) else rdF S T l rs n (r + 1) c f
theorem rdF_t {S : sT} {T : aT} {l : lgT} {rs : List ruT} {n c : Nat} {r f : Int} (h : hF S (ruF rs r) l 100 0 (T, fun _ => 0) = true) : rdF S T l rs (n + 1) r c f = rdF S T l rs n (r + 1) (c + 1) (if c = 0 then r else f) := by rw [rdF, if_pos h]
theorem rdF_f {S : sT} {T : aT} {l : lgT} {rs : List ruT} {n c : Nat} {r f : Int} (h : hF S (ruF rs r) l 100 0 (T, fun _ => 0) = false) : rdF S T l rs (n + 1) r c f = rdF S T l rs n (r + 1) c f := by rw [rdF, if_neg (by rw [h]; decide)]
theorem zI_1 (r : Int) : zI r + nI 1 = zI (r + 1) := by rw [nz, zI_add]; rfl
section
variable {nn : Nat} {K : Nat → Nat × Nat} {P : Nat → Nat → Nat} {rs : List ruT} {S : sT} {T : aT} {l : lgT} {p : Nat}
theorem cRd_go (O : okS S) (hlen : rs.length ≤ 6) (hok : ∀ ru ∈ rs, okRu ru) (ps : P 12 0 = 13 ∨ 171 < P 12 0) (ol : okLg S l) (hT : okA S T) (hT0 : T.2.2.1 = 0) (hp : p ≤ 1) : ∀ (f n : Nat) (r : Int) (c : Nat) (fi : Int) (I : Nat → Nat → Int32) (L : Nat → Nat → Int64), n < f → n + r = rs.length → -1 ≤ r → c + n < 1000 → cS I (P 12 0) S → cA I L (P 12 0 + 8) S T → ruY nn K P I rs → cLg I l → ∃ J M, mX11_ruled_33 K P f I L (nI p) (nI c) (zI fi) (zI r) = some (if p = 0 then nI (rdF S T l rs n r c fi).1 else zI (rdF S T l rs n r c fi).2, J, M) ∧ ∀ b, b < 92 ∨ 122 < b → J b = I b ∧ M b = L b
  | 0, n, r, c, fi, I, L, h1, _, _, _, _, _, _, _ => absurd h1 (by omega)
  | f + 1, n, r, c, fi, I, L, h1, h2, h3, h4, C, hC, R, Cl => by
    have r1 := R.1
    rw [mX11_ruled_33]
    cases n with
    | zero =>
      refine ⟨I, L, ?_, fun _ _ => ⟨rfl, rfl⟩⟩
      rcases (show p = 0 ∨ p = 1 by omega) with rfl | rfl
      · simp (disch := omega) only [↓reduceIte, Option.bind_some, Option.some.injEq, Prod.mk.injEq, and_self, and_true, true_and, eq_self, reduceCtorEq, not_false_eq_true, not_true_eq_false, or_true, true_or, or_false, false_or, bft, nAdd, nMul, nSub, nDiv, nRem, nAm1, nIx, nIn, bI_z, bI_o, ite_b1, ite_b0, zI_add, zI_sub, li0, li1, li2, li3, li4, li5, li6, li7, li8, li9, li10, li11, li12, li13, li14, li15, li16, li17, li18, li19, li20, li21, li22, li23, li24, li25, li26, li27, li28, li29, li30, li31, li32, li33, li34, li35, li36, li37, li40, li42, li43, li45, li47, li48, li57, li59, li60, li61, li62, li64, li80, li91, li93, li97, li99, li100, li122, li182, li199, li255, li300, li380, li400, li999, li1000, li3640, li4100, li65536, li99999, ln1, ln2, ln3, ln100, ln100000, tLe, fLe, tLt, fLt, tEq, fEq, zLe_t, zLe_f, zLt_t, zLt_f, zEq_t, zEq_f, nzLe_t, nzLe_f, znLe_t, znLe_f, nzLt_t, nzLt_f, znLt_t, znLt_f, nzEq_t, nzEq_f, znEq_t, znEq_f, r1]
        rfl
      · simp (disch := omega) only [↓reduceIte, Option.bind_some, Option.some.injEq, Prod.mk.injEq, and_self, and_true, true_and, eq_self, reduceCtorEq, not_false_eq_true, not_true_eq_false, or_true, true_or, or_false, false_or, bft, nAdd, nMul, nSub, nDiv, nRem, nAm1, nIx, nIn, bI_z, bI_o, ite_b1, ite_b0, zI_add, zI_sub, li0, li1, li2, li3, li4, li5, li6, li7, li8, li9, li10, li11, li12, li13, li14, li15, li16, li17, li18, li19, li20, li21, li22, li23, li24, li25, li26, li27, li28, li29, li30, li31, li32, li33, li34, li35, li36, li37, li40, li42, li43, li45, li47, li48, li57, li59, li60, li61, li62, li64, li80, li91, li93, li97, li99, li100, li122, li182, li199, li255, li300, li380, li400, li999, li1000, li3640, li4100, li65536, li99999, ln1, ln2, ln3, ln100, ln100000, tLe, fLe, tLt, fLt, tEq, fEq, zLe_t, zLe_f, zLt_t, zLt_f, zEq_t, zEq_f, nzLe_t, nzLe_f, znLe_t, znLe_f, nzLt_t, nzLt_f, znLt_t, znLt_f, nzEq_t, nzEq_f, znEq_t, znEq_f, r1]
        rfl
    | succ n =>
      obtain ⟨J1, M1, f1, f2, f3, f4⟩ := fits_ok (nn := nn) (K := K) (P := P) (I := I) (L := L) (T := T) (r := r) (la := -1) (row := 0) O hlen hok h3 (by omega) ps ol (by decide) (by decide) (by decide) hT hT0 C hC R Cl
      have C1 : cS J1 (P 12 0) S := cS_congr (fun b q1 q2 => (f2 b (by omega)).1) C
      have hC1 : cA J1 M1 (P 12 0 + 8) S T := cA_congr (f2 _ (by omega)).1 (f2 _ (by omega)).1 (f2 _ (by omega)).2 hC
      have R1 := ruY_congr (fun b hb => (f2 b hb).1) R
      have Cl1 := cLg_congr (fun b hb => (f2 b hb).1) Cl
      cases hh : hF S (ruF rs r) l 100 0 (T, fun _ => 0) with
      | false =>
        rw [hh] at f1
        rw [rdF_f hh]
        obtain ⟨J, M, u1, u2⟩ := cRd_go O hlen hok ps ol hT hT0 hp f n (r + 1) c fi J1 M1 (by omega) (by omega) (by omega) (by omega) C1 hC1 R1 Cl1
        refine ⟨J, M, ?_, fun b hb => ⟨((u2 b hb).1).trans (f2 b hb).1, ((u2 b hb).2).trans (f2 b hb).2⟩⟩
        simp (disch := omega) only [↓reduceIte, Option.bind_some, Option.some.injEq, Prod.mk.injEq, and_self, and_true, true_and, eq_self, reduceCtorEq, not_false_eq_true, not_true_eq_false, or_true, true_or, or_false, false_or, bft, nAdd, nMul, nSub, nDiv, nRem, nAm1, nIx, nIn, bI_z, bI_o, ite_b1, ite_b0, zI_add, zI_sub, li0, li1, li2, li3, li4, li5, li6, li7, li8, li9, li10, li11, li12, li13, li14, li15, li16, li17, li18, li19, li20, li21, li22, li23, li24, li25, li26, li27, li28, li29, li30, li31, li32, li33, li34, li35, li36, li37, li40, li42, li43, li45, li47, li48, li57, li59, li60, li61, li62, li64, li80, li91, li93, li97, li99, li100, li122, li182, li199, li255, li300, li380, li400, li999, li1000, li3640, li4100, li65536, li99999, ln1, ln2, ln3, ln100, ln100000, tLe, fLe, tLt, fLt, tEq, fEq, zLe_t, zLe_f, zLt_t, zLt_f, zEq_t, zEq_f, nzLe_t, nzLe_f, znLe_t, znLe_f, nzLt_t, nzLt_f, znLt_t, znLt_f, nzEq_t, nzEq_f, znEq_t, znEq_f, r1, f1, zI_1]
        exact u1
      | true =>
        rw [hh] at f1
        rw [rdF_t hh]
        obtain ⟨J, M, u1, u2⟩ := cRd_go O hlen hok ps ol hT hT0 hp f n (r + 1) (c + 1) (if c = 0 then r else fi) J1 M1 (by omega) (by omega) (by omega) (by omega) C1 hC1 R1 Cl1
        refine ⟨J, M, ?_, fun b hb => ⟨((u2 b hb).1).trans (f2 b hb).1, ((u2 b hb).2).trans (f2 b hb).2⟩⟩
        rw [← u1]
        by_cases q : c = 0
        · simp (disch := omega) only [↓reduceIte, Option.bind_some, Option.some.injEq, Prod.mk.injEq, and_self, and_true, true_and, eq_self, reduceCtorEq, not_false_eq_true, not_true_eq_false, or_true, true_or, or_false, false_or, bft, nAdd, nMul, nSub, nDiv, nRem, nAm1, nIx, nIn, bI_z, bI_o, ite_b1, ite_b0, zI_add, zI_sub, li0, li1, li2, li3, li4, li5, li6, li7, li8, li9, li10, li11, li12, li13, li14, li15, li16, li17, li18, li19, li20, li21, li22, li23, li24, li25, li26, li27, li28, li29, li30, li31, li32, li33, li34, li35, li36, li37, li40, li42, li43, li45, li47, li48, li57, li59, li60, li61, li62, li64, li80, li91, li93, li97, li99, li100, li122, li182, li199, li255, li300, li380, li400, li999, li1000, li3640, li4100, li65536, li99999, ln1, ln2, ln3, ln100, ln100000, tLe, fLe, tLt, fLt, tEq, fEq, zLe_t, zLe_f, zLt_t, zLt_f, zEq_t, zEq_f, nzLe_t, nzLe_f, znLe_t, znLe_f, nzLt_t, nzLt_f, znLt_t, znLt_f, nzEq_t, nzEq_f, znEq_t, znEq_f, r1, f1, zI_1, q]
        · simp (disch := omega) only [↓reduceIte, Option.bind_some, Option.some.injEq, Prod.mk.injEq, and_self, and_true, true_and, eq_self, reduceCtorEq, not_false_eq_true, not_true_eq_false, or_true, true_or, or_false, false_or, bft, nAdd, nMul, nSub, nDiv, nRem, nAm1, nIx, nIn, bI_z, bI_o, ite_b1, ite_b0, zI_add, zI_sub, li0, li1, li2, li3, li4, li5, li6, li7, li8, li9, li10, li11, li12, li13, li14, li15, li16, li17, li18, li19, li20, li21, li22, li23, li24, li25, li26, li27, li28, li29, li30, li31, li32, li33, li34, li35, li36, li37, li40, li42, li43, li45, li47, li48, li57, li59, li60, li61, li62, li64, li80, li91, li93, li97, li99, li100, li122, li182, li199, li255, li300, li380, li400, li999, li1000, li3640, li4100, li65536, li99999, ln1, ln2, ln3, ln100, ln100000, tLe, fLe, tLt, fLt, tEq, fEq, zLe_t, zLe_f, zLt_t, zLt_f, zEq_t, zEq_f, nzLe_t, nzLe_f, znLe_t, znLe_f, nzLt_t, nzLt_f, znLt_t, znLt_f, nzEq_t, nzEq_f, znEq_t, znEq_f, r1, f1, zI_1, q]
theorem rRd_go {I0 : Nat → Nat → Int32} (O : okS S) (hlen : rs.length ≤ 6) (hok : ∀ ru ∈ rs, okRu ru) (ol : okLg S l) (hT : okA S T) (hTc : ∀ c, c < sCe S → ∀ x ∈ T.1 c, x / 4 = 1) (hT0 : T.2.2.1 = 0) (hp : p ≤ 1) (R0 : rB I0 S T l rs) : ∀ (f n : Nat) (r : Int) (c : Nat) (fi : Int) (I : Nat → Nat → Int32) (L : Nat → Nat → Int64), n < f → n + r = rs.length → -1 ≤ r → c + n < 1000 → f5 I0 I → aR I0 I → sv I0 I → ∃ J M, mX12_ruled_32 f I L (nI p) (nI c) (zI fi) (zI r) = some (if p = 0 then nI (rdF S T l rs n r c fi).1 else zI (rdF S T l rs n r c fi).2, J, M) ∧ f5 I0 J ∧ aR I0 J ∧ ∀ b, b ≠ 158 → b ≠ 159 → M b = L b
  | 0, n, r, c, fi, I, L, h1, _, _, _, _, _, _ => absurd h1 (by omega)
  | f + 1, n, r, c, fi, I, L, h1, h2, h3, h4, hf, ha, hs => by
    have r1 := (rB_of O hT hf ha R0).2.2.2.1
    rw [mX12_ruled_32]
    cases n with
    | zero =>
      refine ⟨I, L, ?_, hf, ha, fun _ _ _ => rfl⟩
      rcases (show p = 0 ∨ p = 1 by omega) with rfl | rfl
      · simp (disch := omega) only [↓reduceIte, Option.bind_some, Option.some.injEq, Prod.mk.injEq, and_self, and_true, true_and, eq_self, reduceCtorEq, not_false_eq_true, not_true_eq_false, or_true, true_or, or_false, false_or, bft, nAdd, nMul, nSub, nDiv, nRem, nAm1, nIx, nIn, bI_z, bI_o, ite_b1, ite_b0, zI_add, zI_sub, li0, li1, li2, li3, li4, li5, li6, li7, li8, li9, li10, li11, li12, li13, li14, li15, li16, li17, li18, li19, li20, li21, li22, li23, li24, li25, li26, li27, li28, li29, li30, li31, li32, li33, li34, li35, li36, li37, li40, li42, li43, li45, li47, li48, li57, li59, li60, li61, li62, li64, li80, li91, li93, li97, li99, li100, li122, li182, li199, li255, li300, li380, li400, li999, li1000, li3640, li4100, li65536, li99999, ln1, ln2, ln3, ln100, ln100000, tLe, fLe, tLt, fLt, tEq, fEq, zLe_t, zLe_f, zLt_t, zLt_f, zEq_t, zEq_f, nzLe_t, nzLe_f, znLe_t, znLe_f, nzLt_t, nzLt_f, znLt_t, znLt_f, nzEq_t, nzEq_f, znEq_t, znEq_f, r1]
        rfl
      · simp (disch := omega) only [↓reduceIte, Option.bind_some, Option.some.injEq, Prod.mk.injEq, and_self, and_true, true_and, eq_self, reduceCtorEq, not_false_eq_true, not_true_eq_false, or_true, true_or, or_false, false_or, bft, nAdd, nMul, nSub, nDiv, nRem, nAm1, nIx, nIn, bI_z, bI_o, ite_b1, ite_b0, zI_add, zI_sub, li0, li1, li2, li3, li4, li5, li6, li7, li8, li9, li10, li11, li12, li13, li14, li15, li16, li17, li18, li19, li20, li21, li22, li23, li24, li25, li26, li27, li28, li29, li30, li31, li32, li33, li34, li35, li36, li37, li40, li42, li43, li45, li47, li48, li57, li59, li60, li61, li62, li64, li80, li91, li93, li97, li99, li100, li122, li182, li199, li255, li300, li380, li400, li999, li1000, li3640, li4100, li65536, li99999, ln1, ln2, ln3, ln100, ln100000, tLe, fLe, tLt, fLt, tEq, fEq, zLe_t, zLe_f, zLt_t, zLt_f, zEq_t, zEq_f, nzLe_t, nzLe_f, znLe_t, znLe_f, nzLt_t, nzLt_f, znLt_t, znLt_f, nzEq_t, nzEq_f, znEq_t, znEq_f, r1]
        rfl
    | succ n =>
      obtain ⟨H, M1, c1, c2, c3, c4, c5, c6, c7⟩ := could_ok (L := L) (r := r) (la := -1) O hT hTc hT0 ol (by decide) (by decide) hlen hok h3 (by omega) R0 hf ha hs
      cases hh : hF S (ruF rs r) l 100 0 (T, fun _ => 0) with
      | false =>
        rw [hh] at c1
        rw [rdF_f hh]
        obtain ⟨J, M, u1, u2, u3, u4⟩ := rRd_go O hlen hok ol hT hTc hT0 hp R0 f n (r + 1) c fi H M1 (by omega) (by omega) (by omega) (by omega) c2 c3 c4
        refine ⟨J, M, ?_, u2, u3, fun b q1 q2 => (u4 b q1 q2).trans (c5 b q1 q2)⟩
        simp (disch := omega) only [↓reduceIte, Option.bind_some, Option.some.injEq, Prod.mk.injEq, and_self, and_true, true_and, eq_self, reduceCtorEq, not_false_eq_true, not_true_eq_false, or_true, true_or, or_false, false_or, bft, nAdd, nMul, nSub, nDiv, nRem, nAm1, nIx, nIn, bI_z, bI_o, ite_b1, ite_b0, zI_add, zI_sub, li0, li1, li2, li3, li4, li5, li6, li7, li8, li9, li10, li11, li12, li13, li14, li15, li16, li17, li18, li19, li20, li21, li22, li23, li24, li25, li26, li27, li28, li29, li30, li31, li32, li33, li34, li35, li36, li37, li40, li42, li43, li45, li47, li48, li57, li59, li60, li61, li62, li64, li80, li91, li93, li97, li99, li100, li122, li182, li199, li255, li300, li380, li400, li999, li1000, li3640, li4100, li65536, li99999, ln1, ln2, ln3, ln100, ln100000, tLe, fLe, tLt, fLt, tEq, fEq, zLe_t, zLe_f, zLt_t, zLt_f, zEq_t, zEq_f, nzLe_t, nzLe_f, znLe_t, znLe_f, nzLt_t, nzLt_f, znLt_t, znLt_f, nzEq_t, nzEq_f, znEq_t, znEq_f, r1, c1, zI_1]
        exact u1
      | true =>
        rw [hh] at c1
        rw [rdF_t hh]
        obtain ⟨J, M, u1, u2, u3, u4⟩ := rRd_go O hlen hok ol hT hTc hT0 hp R0 f n (r + 1) (c + 1) (if c = 0 then r else fi) H M1 (by omega) (by omega) (by omega) (by omega) c2 c3 c4
        refine ⟨J, M, ?_, u2, u3, fun b q1 q2 => (u4 b q1 q2).trans (c5 b q1 q2)⟩
        rw [← u1]
        by_cases q : c = 0
        · simp (disch := omega) only [↓reduceIte, Option.bind_some, Option.some.injEq, Prod.mk.injEq, and_self, and_true, true_and, eq_self, reduceCtorEq, not_false_eq_true, not_true_eq_false, or_true, true_or, or_false, false_or, bft, nAdd, nMul, nSub, nDiv, nRem, nAm1, nIx, nIn, bI_z, bI_o, ite_b1, ite_b0, zI_add, zI_sub, li0, li1, li2, li3, li4, li5, li6, li7, li8, li9, li10, li11, li12, li13, li14, li15, li16, li17, li18, li19, li20, li21, li22, li23, li24, li25, li26, li27, li28, li29, li30, li31, li32, li33, li34, li35, li36, li37, li40, li42, li43, li45, li47, li48, li57, li59, li60, li61, li62, li64, li80, li91, li93, li97, li99, li100, li122, li182, li199, li255, li300, li380, li400, li999, li1000, li3640, li4100, li65536, li99999, ln1, ln2, ln3, ln100, ln100000, tLe, fLe, tLt, fLt, tEq, fEq, zLe_t, zLe_f, zLt_t, zLt_f, zEq_t, zEq_f, nzLe_t, nzLe_f, znLe_t, znLe_f, nzLt_t, nzLt_f, znLt_t, znLt_f, nzEq_t, nzEq_f, znEq_t, znEq_f, r1, c1, zI_1, q]
        · simp (disch := omega) only [↓reduceIte, Option.bind_some, Option.some.injEq, Prod.mk.injEq, and_self, and_true, true_and, eq_self, reduceCtorEq, not_false_eq_true, not_true_eq_false, or_true, true_or, or_false, false_or, bft, nAdd, nMul, nSub, nDiv, nRem, nAm1, nIx, nIn, bI_z, bI_o, ite_b1, ite_b0, zI_add, zI_sub, li0, li1, li2, li3, li4, li5, li6, li7, li8, li9, li10, li11, li12, li13, li14, li15, li16, li17, li18, li19, li20, li21, li22, li23, li24, li25, li26, li27, li28, li29, li30, li31, li32, li33, li34, li35, li36, li37, li40, li42, li43, li45, li47, li48, li57, li59, li60, li61, li62, li64, li80, li91, li93, li97, li99, li100, li122, li182, li199, li255, li300, li380, li400, li999, li1000, li3640, li4100, li65536, li99999, ln1, ln2, ln3, ln100, ln100000, tLe, fLe, tLt, fLt, tEq, fEq, zLe_t, zLe_f, zLt_t, zLt_f, zEq_t, zEq_f, nzLe_t, nzLe_f, znLe_t, znLe_f, nzLt_t, nzLt_f, znLt_t, znLt_f, nzEq_t, nzEq_f, znEq_t, znEq_f, r1, c1, zI_1, q]
end
theorem q_ruled {k : Nat} (hk : k < 512) : st_ruled (Inv k) (Inv (k + 1)) := by
  intro h x hI
  obtain ⟨n, K, P, I, L⟩ := h
  obtain ⟨⟨G, F⟩, Z, ok, C, R⟩ := id hI
  change RI I Z at R
  have O := okZ_S ok
  have o1 := O.1
  have hA := okZ_A ok
  have hh := okZ_h ok
  have cs := CI_S C
  have ca := CI_A C
  have rs := RI_S R
  have ra := RI_A R
  generalize hS : wS (zW Z) = S at O o1 hA cs ca rs ra
  generalize hAA : wA (zW Z) = A at hA hh ca ra
  have pl := CI_p C
  have hf := ok.1.2.2.2.2.2.2
  have hrl := ok.2.2.1
  have hX := CI_ruX C
  have hro : ∀ J, J 124 12 = I 124 12 → (∀ b, 150 ≤ b → b ≤ 156 → J b = I b) → rRo J (ruF (zR Z) (wF (zW Z))) := fun J h1 h2 => rRo_of hrl.1 hrl.2 (h1.trans R.1.2.2.2.2.2.2) (fun r ru hr => rR_congr (fun b h3 h4 => h2 b (by omega) h4) (R.2.2.1.2 r ru hr)) hf.1 hf.2
  have no : mX11_ruled K P I L x = some (-3, I, L) → mX12_ruled I L x = some (-3, I, L) → ∃ r h1 h2, oX_ruled (n, K, P, I, L) x = some (r, h1) ∧ GW h1.2.1 h1.2.2.1 ∧ oM_ruled h1 x = some (r, h2) ∧ Inv (k + 1) h2 := fun a b => ⟨-3, (n, K, P, I, L), (n, K, P, I, L), by unfold oX_ruled; simp only [a]; rfl, G, by unfold oM_ruled; simp only [b]; rfl, Inv_q hI (fun _ _ => rfl)⟩
  have es := rIsStreet_ok rs O
  have w1 := isWn x 0 1
  have w2 := rInW (lo := 0) (hi := 1) (by decide) (by decide) x
  change mX12_in x.toInt64 (0 : Int64) (1 : Int64) = _ at w2
  by_cases hd : 0 < sDry S
  · rw [decide_eq_true hd] at es
    rcases wiC (lo := 0) (hi := 1) (by decide) (by decide) x with hx | ⟨p, -, hp, rfl⟩
    · refine no ?_ ?_
      · unfold mX11_ruled; simp (disch := omega) only [↓reduceIte, Option.bind_some, Option.some.injEq, Prod.mk.injEq, and_self, and_true, true_and, eq_self, reduceCtorEq, not_false_eq_true, not_true_eq_false, or_true, true_or, or_false, false_or, bft, nAdd, nMul, nSub, nDiv, nRem, nAm1, nIx, nIn, bI_z, bI_o, ite_b1, ite_b0, zI_add, zI_sub, li0, li1, li2, li3, li4, li5, li6, li7, li8, li9, li10, li11, li12, li13, li14, li15, li16, li17, li18, li19, li20, li21, li22, li23, li24, li25, li26, li27, li28, li29, li30, li31, li32, li33, li34, li35, li36, li37, li40, li42, li43, li45, li47, li48, li57, li59, li60, li61, li62, li64, li80, li91, li93, li97, li99, li100, li122, li182, li199, li255, li300, li380, li400, li999, li1000, li3640, li4100, li65536, li99999, ln1, ln2, ln3, ln100, ln100000, tLe, fLe, tLt, fLt, tEq, fEq, zLe_t, zLe_f, zLt_t, zLt_f, zEq_t, zEq_f, nzLe_t, nzLe_f, znLe_t, znLe_f, nzLt_t, nzLt_f, znLt_t, znLt_f, nzEq_t, nzEq_f, znEq_t, znEq_f, cS_told cs, decide_eq_true hd, w1, hx]
      · unfold mX12_ruled; simp (disch := omega) only [↓reduceIte, Option.bind_some, Option.some.injEq, Prod.mk.injEq, and_self, and_true, true_and, eq_self, reduceCtorEq, not_false_eq_true, not_true_eq_false, or_true, true_or, or_false, false_or, bft, nAdd, nMul, nSub, nDiv, nRem, nAm1, nIx, nIn, bI_z, bI_o, ite_b1, ite_b0, zI_add, zI_sub, li0, li1, li2, li3, li4, li5, li6, li7, li8, li9, li10, li11, li12, li13, li14, li15, li16, li17, li18, li19, li20, li21, li22, li23, li24, li25, li26, li27, li28, li29, li30, li31, li32, li33, li34, li35, li36, li37, li40, li42, li43, li45, li47, li48, li57, li59, li60, li61, li62, li64, li80, li91, li93, li97, li99, li100, li122, li182, li199, li255, li300, li380, li400, li999, li1000, li3640, li4100, li65536, li99999, ln1, ln2, ln3, ln100, ln100000, tLe, fLe, tLt, fLt, tEq, fEq, zLe_t, zLe_f, zLt_t, zLt_f, zEq_t, zEq_f, nzLe_t, nzLe_f, znLe_t, znLe_f, nzLt_t, nzLt_f, znLt_t, znLt_f, nzEq_t, nzEq_f, znEq_t, znEq_f, es, w2, hx]
    rw [wiB_t (by omega) hp (by omega)] at w1 w2
    have oT := ok.1.2.1
    have oL := ok.1.2.2.2.2.1
    have cT : cA I L (P 12 0 + 8) (wS (zW Z)) (wT0 (zW Z)) := C.1.1.1.2
    have cL : cLg I (wL (zW Z)) := C.1.1.2.2.2.1
    rw [hS] at oT cT
    have oL' : okLg S (wL (zW Z)) := by rw [← hS]; exact oL
    obtain ⟨J, M, t1, t2⟩ := cRd_go (nn := n) (K := K) (P := P) (p := p) O hrl.1 hrl.2 pl oL' oT.1 oT.2.2 hp xf ((zR Z).length + 1) (-1) 0 (-2) I L (by unfold xf; omega) (by omega) (by decide) (by omega) cs cT ⟨hX.2.1, hX.2.2⟩ cL
    have hJ : ∀ b, b < 92 ∨ 122 < b → J b = I b ∧ M b = L b := t2
    have R0 : RI J Z := RI_cls ok (fun b h1 h2 => (hJ b (by omega)).1) R
    have rsJ : rSn J S := by rw [← hS]; exact R0.1.1
    have es3 := rIsStreet_ok rsJ O
    rw [decide_eq_true hd] at es3
    have RB : rB J S (wT0 (zW Z)) (wL (zW Z)) (zR Z) := ⟨rsJ, by rw [← hS]; exact R0.1.2.2.1, R0.1.2.2.2.2.1, R0.2.2.1⟩
    obtain ⟨H0, k1, k2, k3, k4, k5⟩ := keepsAll_ok J
    have k6 : f5 J H0 := fun r i h1 h2 => k5 r i (by unfold fv at h1; omega) (by unfold fv at h1; omega) (Or.inl (by unfold fv at h1; omega))
    obtain ⟨H, M2, u1, u2, u3, u4⟩ := rRd_go (p := p) O hrl.1 hrl.2 oL' oT.1 oT.2.1 oT.2.2 hp RB xf ((zR Z).length + 1) (-1) 0 (-2) H0 M (by unfold xf; omega) (by omega) (by decide) (by omega) k6 k4 k2
    refine ⟨(if p = 0 then nI (rdF S (wT0 (zW Z)) (wL (zW Z)) (zR Z) ((zR Z).length + 1) (-1) 0 (-2)).1 else zI (rdF S (wT0 (zW Z)) (wL (zW Z)) (zR Z) ((zR Z).length + 1) (-1) 0 (-2)).2), (n, K, P, J, M), (n, K, P, H, M2), ?_, G, ?_, Inv_asked G F ok C R hJ u3 u2 u4⟩
    · unfold oX_ruled mX11_ruled
      simp (disch := omega) only [↓reduceIte, Option.bind_some, Option.some.injEq, Prod.mk.injEq, and_self, and_true, true_and, eq_self, reduceCtorEq, not_false_eq_true, not_true_eq_false, or_true, true_or, or_false, false_or, bft, nAdd, nMul, nSub, nDiv, nRem, nAm1, nIx, nIn, bI_z, bI_o, ite_b1, ite_b0, zI_add, zI_sub, li0, li1, li2, li3, li4, li5, li6, li7, li8, li9, li10, li11, li12, li13, li14, li15, li16, li17, li18, li19, li20, li21, li22, li23, li24, li25, li26, li27, li28, li29, li30, li31, li32, li33, li34, li35, li36, li37, li40, li42, li43, li45, li47, li48, li57, li59, li60, li61, li62, li64, li80, li91, li93, li97, li99, li100, li122, li182, li199, li255, li300, li380, li400, li999, li1000, li3640, li4100, li65536, li99999, ln1, ln2, ln3, ln100, ln100000, tLe, fLe, tLt, fLt, tEq, fEq, zLe_t, zLe_f, zLt_t, zLt_f, zEq_t, zEq_f, nzLe_t, nzLe_f, znLe_t, znLe_f, nzLt_t, nzLt_f, znLt_t, znLt_f, nzEq_t, nzEq_f, znEq_t, znEq_f, cS_told cs, decide_eq_true hd, w1, t1, Option.map_some]
    · unfold oM_ruled mX12_ruled
      simp (disch := omega) only [↓reduceIte, Option.bind_some, Option.some.injEq, Prod.mk.injEq, and_self, and_true, true_and, eq_self, reduceCtorEq, not_false_eq_true, not_true_eq_false, or_true, true_or, or_false, false_or, bft, nAdd, nMul, nSub, nDiv, nRem, nAm1, nIx, nIn, bI_z, bI_o, ite_b1, ite_b0, zI_add, zI_sub, li0, li1, li2, li3, li4, li5, li6, li7, li8, li9, li10, li11, li12, li13, li14, li15, li16, li17, li18, li19, li20, li21, li22, li23, li24, li25, li26, li27, li28, li29, li30, li31, li32, li33, li34, li35, li36, li37, li40, li42, li43, li45, li47, li48, li57, li59, li60, li61, li62, li64, li80, li91, li93, li97, li99, li100, li122, li182, li199, li255, li300, li380, li400, li999, li1000, li3640, li4100, li65536, li99999, ln1, ln2, ln3, ln100, ln100000, tLe, fLe, tLt, fLt, tEq, fEq, zLe_t, zLe_f, zLt_t, zLt_f, zEq_t, zEq_f, nzLe_t, nzLe_f, znLe_t, znLe_f, nzLt_t, nzLt_f, znLt_t, znLt_f, nzEq_t, nzEq_f, znEq_t, znEq_f, es3, w2, k1, u1, Option.map_some]
  · rw [decide_eq_false hd] at es
    refine no ?_ ?_
    · unfold mX11_ruled; simp (disch := omega) only [↓reduceIte, Option.bind_some, Option.some.injEq, Prod.mk.injEq, and_self, and_true, true_and, eq_self, reduceCtorEq, not_false_eq_true, not_true_eq_false, or_true, true_or, or_false, false_or, bft, nAdd, nMul, nSub, nDiv, nRem, nAm1, nIx, nIn, bI_z, bI_o, ite_b1, ite_b0, zI_add, zI_sub, li0, li1, li2, li3, li4, li5, li6, li7, li8, li9, li10, li11, li12, li13, li14, li15, li16, li17, li18, li19, li20, li21, li22, li23, li24, li25, li26, li27, li28, li29, li30, li31, li32, li33, li34, li35, li36, li37, li40, li42, li43, li45, li47, li48, li57, li59, li60, li61, li62, li64, li80, li91, li93, li97, li99, li100, li122, li182, li199, li255, li300, li380, li400, li999, li1000, li3640, li4100, li65536, li99999, ln1, ln2, ln3, ln100, ln100000, tLe, fLe, tLt, fLt, tEq, fEq, zLe_t, zLe_f, zLt_t, zLt_f, zEq_t, zEq_f, nzLe_t, nzLe_f, znLe_t, znLe_f, nzLt_t, nzLt_f, znLt_t, znLt_f, nzEq_t, nzEq_f, znEq_t, znEq_f, cS_told cs, decide_eq_false hd]
    · unfold mX12_ruled; simp (disch := omega) only [↓reduceIte, Option.bind_some, Option.some.injEq, Prod.mk.injEq, and_self, and_true, true_and, eq_self, reduceCtorEq, not_false_eq_true, not_true_eq_false, or_true, true_or, or_false, false_or, bft, nAdd, nMul, nSub, nDiv, nRem, nAm1, nIx, nIn, bI_z, bI_o, ite_b1, ite_b0, zI_add, zI_sub, li0, li1, li2, li3, li4, li5, li6, li7, li8, li9, li10, li11, li12, li13, li14, li15, li16, li17, li18, li19, li20, li21, li22, li23, li24, li25, li26, li27, li28, li29, li30, li31, li32, li33, li34, li35, li36, li37, li40, li42, li43, li45, li47, li48, li57, li59, li60, li61, li62, li64, li80, li91, li93, li97, li99, li100, li122, li182, li199, li255, li300, li380, li400, li999, li1000, li3640, li4100, li65536, li99999, ln1, ln2, ln3, ln100, ln100000, tLe, fLe, tLt, fLt, tEq, fEq, zLe_t, zLe_f, zLt_t, zLt_f, zEq_t, zEq_f, nzLe_t, nzLe_f, znLe_t, znLe_f, nzLt_t, nzLt_f, znLt_t, znLt_f, nzEq_t, nzEq_f, znEq_t, znEq_f, es]

/-! Hours that are only asked about: what both leave. -/
def fv (r : Nat) : Prop := r = 124 ∨ r = 128 ∨ r = 131 ∨ r = 132 ∨ r = 133
def aR (I H : Nat → Nat → Int32) : Prop := (∀ b i, ¬ fv b → b ≠ 170 → b < 157 ∨ 169 < b ∨ b = 162 → b ≠ 123 ∨ i = 27 ∨ i = 31 ∨ i = 36 ∨ i = 51 → H b i = I b i) ∧ ∀ j, j < 16400 → H 170 j = I 170 j
def f5 (I H : Nat → Nat → Int32) : Prop := ∀ r i, fv r → i < lenR r → H r i = I r i
def sv (I J : Nat → Nat → Int32) : Prop := ∀ r i, fv r → i < lenR r → J 170 (16400 + offR r + i) = I r i
theorem aR_refl (I : Nat → Nat → Int32) : aR I I := ⟨fun _ _ _ _ _ _ => rfl, fun _ _ => rfl⟩
theorem aR_trans {I J H : Nat → Nat → Int32} (a : aR I J) (b : aR J H) : aR I H := ⟨fun c i h1 h2 h3 h4 => (b.1 c i h1 h2 h3 h4).trans (a.1 c i h1 h2 h3 h4), fun j hj => (b.2 j hj).trans (a.2 j hj)⟩
theorem aR_f {I J : Nat → Nat → Int32} (F : fR I J) : aR I J := ⟨fun b i h1 _ h3 _ => by
  unfold fv at h1
  rw [F.2 b (by omega) (by omega) (by omega) (by omega) (by omega) (by omega) (by omega)], fun j _ => by rw [F.2 170 (by decide) (by decide) (by decide) (by decide) (by decide) (by decide) (by decide)]⟩
theorem sv_f {I J H : Nat → Nat → Int32} (F : fR J H) (s : sv I J) : sv I H := fun r i h1 h2 => by
  rw [F.2 170 (by decide) (by decide) (by decide) (by decide) (by decide) (by decide) (by decide)]
  exact s r i h1 h2
theorem keepsAll_ok (I : Nat → Nat → Int32) : ∃ J, mX12_keepsAll I = some J ∧ sv I J ∧ gotR 161 J (fun _ => 0) ∧ aR I J ∧ ∀ b i, b ≠ 170 → b ≠ 161 → b ≠ 123 ∨ (i ≠ 63 ∧ i ≠ 64) → J b i = I b i := by
  obtain ⟨J, j1, j2, j3, j4⟩ := save4 I
  have e : ∀ b, b ≠ 161 → xu (xu (xu (xu J 161 0 (nI 0)) 161 1 (nI 0)) 161 2 (nI 0)) 161 3 (nI 0) b = J b := fun b hb => by rw [xu_r hb, xu_r hb, xu_r hb, xu_r hb]
  refine ⟨xu (xu (xu (xu J 161 0 (nI 0)) 161 1 (nI 0)) 161 2 (nI 0)) 161 3 (nI 0), ?_, fun r i h1 h2 => ?_, fun q hq => ?_, ⟨fun b i h1 h2 h3 h4 => ?_, fun j hj => ?_⟩, fun b i h1 h2 h3 => ?_⟩
  · unfold mX12_keepsAll
    simp (disch := omega) only [↓reduceIte, Option.bind_some, Option.some.injEq, Prod.mk.injEq, and_self, and_true, true_and, eq_self, reduceCtorEq, not_false_eq_true, not_true_eq_false, or_true, true_or, or_false, false_or, bft, nAdd, nMul, nSub, nDiv, nRem, nAm1, nIx, nIn, bI_z, bI_o, ite_b1, ite_b0, zI_add, zI_sub, li0, li1, li2, li3, li4, li5, li6, li7, li8, li9, li10, li11, li12, li13, li14, li15, li16, li17, li18, li19, li20, li21, li22, li23, li24, li25, li26, li27, li28, li29, li30, li31, li32, li33, li34, li35, li36, li37, li40, li42, li43, li45, li47, li48, li57, li59, li60, li61, li62, li64, li80, li91, li93, li97, li99, li100, li122, li182, li199, li255, li300, li380, li400, li999, li1000, li3640, li4100, li65536, li99999, ln1, ln2, ln3, ln100, ln100000, tLe, fLe, tLt, fLt, tEq, fEq, zLe_t, zLe_f, zLt_t, zLt_f, zEq_t, zEq_f, nzLe_t, nzLe_f, znLe_t, znLe_f, nzLt_t, nzLt_f, znLt_t, znLt_f, nzEq_t, nzEq_f, znEq_t, znEq_f, j1]
    rw [xf_s, mX12_keepsAll_8, mX12_keepsAll_8, mX12_keepsAll_8, mX12_keepsAll_8, mX12_keepsAll_8]
    simp (disch := omega) only [↓reduceIte, Option.bind_some, Option.some.injEq, Prod.mk.injEq, and_self, and_true, true_and, eq_self, reduceCtorEq, not_false_eq_true, not_true_eq_false, or_true, true_or, or_false, false_or, bft, nAdd, nMul, nSub, nDiv, nRem, nAm1, nIx, nIn, bI_z, bI_o, ite_b1, ite_b0, zI_add, zI_sub, li0, li1, li2, li3, li4, li5, li6, li7, li8, li9, li10, li11, li12, li13, li14, li15, li16, li17, li18, li19, li20, li21, li22, li23, li24, li25, li26, li27, li28, li29, li30, li31, li32, li33, li34, li35, li36, li37, li40, li42, li43, li45, li47, li48, li57, li59, li60, li61, li62, li64, li80, li91, li93, li97, li99, li100, li122, li182, li199, li255, li300, li380, li400, li999, li1000, li3640, li4100, li65536, li99999, ln1, ln2, ln3, ln100, ln100000, tLe, fLe, tLt, fLt, tEq, fEq, zLe_t, zLe_f, zLt_t, zLt_f, zEq_t, zEq_f, nzLe_t, nzLe_f, znLe_t, znLe_f, nzLt_t, nzLt_f, znLt_t, znLt_f, nzEq_t, nzEq_f, znEq_t, znEq_f]
  · rw [e 170 (by decide)]; exact j2 r i h1 h2
  · rcases (show q = 0 ∨ q = 1 ∨ q = 2 ∨ q = 3 by omega) with rfl | rfl | rfl | rfl <;> simp (disch := omega) only [↓reduceIte, Option.bind_some, Option.some.injEq, Prod.mk.injEq, and_self, and_true, true_and, eq_self, reduceCtorEq, not_false_eq_true, not_true_eq_false, or_true, true_or, or_false, false_or, bft, nAdd, nMul, nSub, nDiv, nRem, nAm1, nIx, nIn, bI_z, bI_o, ite_b1, ite_b0, zI_add, zI_sub, li0, li1, li2, li3, li4, li5, li6, li7, li8, li9, li10, li11, li12, li13, li14, li15, li16, li17, li18, li19, li20, li21, li22, li23, li24, li25, li26, li27, li28, li29, li30, li31, li32, li33, li34, li35, li36, li37, li40, li42, li43, li45, li47, li48, li57, li59, li60, li61, li62, li64, li80, li91, li93, li97, li99, li100, li122, li182, li199, li255, li300, li380, li400, li999, li1000, li3640, li4100, li65536, li99999, ln1, ln2, ln3, ln100, ln100000, tLe, fLe, tLt, fLt, tEq, fEq, zLe_t, zLe_f, zLt_t, zLt_f, zEq_t, zEq_f, nzLe_t, nzLe_f, znLe_t, znLe_f, nzLt_t, nzLt_f, znLt_t, znLt_f, nzEq_t, nzEq_f, znEq_t, znEq_f, xu_s, xu_r, xu_c, xrow_at, xrow_r]
  · rw [e b (by omega), j4 b i h2 (by omega)]
  · rw [e 170 (by decide), j3 j hj]
  · rw [e b h2, j4 b i h1 h3]
theorem laysBack_ok {I J : Nat → Nat → Int32} (s : sv I J) : ∃ H, mX12_laysBack J = some H ∧ f5 I H ∧ aR J H ∧ ∀ b i, ¬ fv b → b ≠ 123 ∨ (i ≠ 63 ∧ i ≠ 64) → H b i = J b i := by
  obtain ⟨H, j1, j2, j3⟩ := rest4 J
  have e : ∀ b i, ¬ fv b → b ≠ 123 ∨ (i ≠ 63 ∧ i ≠ 64) → H b i = J b i := fun b i h1 h2 => by
    unfold fv at h1
    exact j3 b i (by omega) (by omega) (by omega) (by omega) (by omega) h2
  refine ⟨H, ?_, fun r i h1 h2 => (j2 r i h1 h2).trans (s r i h1 h2), ⟨fun b i h1 h2 h3 h4 => e b i h1 (by omega), fun j hj => e 170 j (by unfold fv; decide) (Or.inl (by decide))⟩, e⟩
  unfold mX12_laysBack
  rw [show (4 : Int32) = nI 4 from rfl, show (1 : Int32) = nI 1 from rfl, j1]
  rfl
section
variable {n : Nat} {K : Nat → Nat × Nat} {P : Nat → Nat → Nat} {I J H : Nat → Nat → Int32} {L M M2 : Nat → Nat → Int64} {Z : zT} {k : Nat}
theorem RI_asked (ok : okZ k Z) (a : aR I H) (f : f5 I H) (R : RI I Z) : RI H Z := by
  refine RI_congr ok (fun r i hi => ?_) ⟨?_, ?_, ?_, ?_⟩ (fun b h1 h2 => funext (fun i => ?_)) a.2 (fun i _ => ?_) R
  · by_cases w : fv r
    · exact f r i w hi
    · have h2 := lenR_200 hi
      refine a.1 r i w (fun e => ?_) ?_ (Or.inl (fun e => ?_))
      · rw [e] at hi; exact Nat.not_lt_zero i hi
      · rcases Nat.lt_or_ge r 157 with q | q
        · exact Or.inl q
        · rcases Nat.lt_or_ge 169 r with q2 | q2
          · exact Or.inr (Or.inl q2)
          · right; right
            have : ∀ r, 157 ≤ r → r ≤ 169 → 0 < lenR r → r = 162 := by
              intro r h1 h2 h3
              have h4 : r = 157 ∨ r = 158 ∨ r = 159 ∨ r = 160 ∨ r = 161 ∨ r = 162 ∨ r = 163 ∨ r = 164 ∨ r = 165 ∨ r = 166 ∨ r = 167 ∨ r = 168 ∨ r = 169 := by omega
              rcases h4 with rfl | rfl | rfl | rfl | rfl | rfl | rfl | rfl | rfl | rfl | rfl | rfl | rfl <;> first | rfl | exact absurd h3 (by decide)
            exact this r q q2 (by omega)
      · rw [e] at hi; exact Nat.not_lt_zero i hi
  · exact a.1 123 51 (by unfold fv; decide) (by decide) (by decide) (by decide)
  · exact a.1 123 31 (by unfold fv; decide) (by decide) (by decide) (by decide)
  · exact a.1 123 27 (by unfold fv; decide) (by decide) (by decide) (by decide)
  · exact a.1 123 36 (by unfold fv; decide) (by decide) (by decide) (by decide)
  · exact a.1 b i (by unfold fv; omega) (by omega) (by omega) (by omega)
  · exact a.1 171 i (by unfold fv; decide) (by decide) (by decide) (Or.inl (by decide))
theorem Inv_asked (G : GW K P) (F : Fr (n, K, P, I, L)) (ok : okZ k Z) (C : CI (n, K, P, I, L) Z) (R : RI I Z) (hJ : ∀ b, b < 92 ∨ 122 < b → J b = I b ∧ M b = L b) (a : aR J H) (f : f5 J H) (hM : ∀ b, b ≠ 158 → b ≠ 159 → M2 b = M b) : Inv (k + 1) (n, K, P, H, M2) := by
  have R0 : RI J Z := RI_cls ok (fun b h1 h2 => (hJ b (by omega)).1) R
  exact Inv_ref (I := J) (L := M) G F (okZ_mono (Nat.le_succ k) ok) (CI_congr ok (fun b hb => hJ b (by omega)) C) (RI_asked ok a f R0) (fun b hb => funext (fun i => a.1 b i (by unfold fv; omega) (by omega) (by omega) (by omega))) (fun b hb => hM b (by omega) (by omega))
def ruX (n : Nat) (K : Nat → Nat × Nat) (P : Nat → Nat → Nat) (I : Nat → Nat → Int32) (rs : List ruT) (fo : Int) : Prop := I 12 9 = zI fo ∧ I 1 5 = nI rs.length ∧ ∀ r ru, rs[r]? = some ru → cR K I (P 11 r) ru ∧ apt n P (P 11 r) 3
theorem ruX_congr {rs : List ruT} {fo : Int} (h : ∀ b, b < 92 ∨ 122 < b → J b = I b) (R : ruX n K P I rs fo) : ruX n K P J rs fo := ⟨by rw [h 12 (by omega)]; exact R.1, by rw [h 1 (by omega)]; exact R.2.1, fun r ru hr => ⟨cR_congr (fun b h1 h2 => h b (by have := (R.2.2 r ru hr).2.1; omega)) (R.2.2 r ru hr).1, (R.2.2 r ru hr).2⟩⟩
theorem CI_ruX (C : CI (n, K, P, I, L) Z) : ruX n K P I (zR Z) (wF (zW Z)) := ⟨C.1.1.2.2.2.2.2, C.2.2.2.1.1, C.2.2.2.1.2⟩
theorem ruX_of {rs : List ruT} {fo : Int} (hlen : rs.length ≤ 6) (hok : ∀ ru ∈ rs, okRu ru) (hf1 : -1 ≤ fo) (hf2 : fo < rs.length) (R : ruX n K P I rs fo) : ∃ rp, mX11_ruleOf P I (I 12 9) = some rp ∧ cRo K I rp (ruF rs fo) := by
  rw [R.1]
  exact ruleOf_ok hlen hok R.2.1 R.2.2 hf1 hf2
/-- one hour of the class on the trial state -/
theorem tryOne {rs : List ruT} {fo : Int} {S : sT} {B : aT × (Nat → Nat)} (O : okS S) (hlen : rs.length ≤ 6) (hok : ∀ ru ∈ rs, okRu ru) (hf1 : -1 ≤ fo) (hf2 : fo < rs.length) (hA : okA S B.1) (hh : B.1.2.2.1 < 990) (ps : P 12 0 = 13 ∨ 171 < P 12 0) (C : cS I (P 12 0) S) (hC : cA I L 92 S B.1) (hg : gotR 101 I B.2) (R : ruX n K P I rs fo) : ∃ rp J M, mX11_ruleOf P I (I 12 9) = some rp ∧ mX2_pass K I L (P 12 0) 92 rp = some (nI (passA S (ruF rs fo) B.1 B.2).2, J, M) ∧ cA J M 92 S (passA S (ruF rs fo) B.1 B.2).1.1 ∧ gotR 101 J (passA S (ruF rs fo) B.1 B.2).1.2 ∧ ∀ b, b < 92 ∨ 101 < b → J b = I b ∧ M b = L b := by
  obtain ⟨rp, r1, r2⟩ := ruX_of hlen hok hf1 hf2 R
  obtain ⟨J, M, p1, p2, p3, p4, p5⟩ := pass_ok (a := 92) O hA hh ps (Or.inr rfl) C hC r2 hg
  exact ⟨rp, J, M, r1, p1, p2, p3, fun b hb => ⟨p4 b (by omega) (by omega) (by omega), p5 b (by omega) (by omega) (by omega)⟩⟩
theorem tryH_go {rs : List ruT} {fo : Int} {S : sT} (O : okS S) (hlen : rs.length ≤ 6) (hok : ∀ ru ∈ rs, okRu ru) (hf1 : -1 ≤ fo) (hf2 : fo < rs.length) (ps : P 12 0 = 13 ∨ 171 < P 12 0) {N : Nat} (hN : N < 1000) : ∀ (f m k : Nat) (B : aT × (Nat → Nat)) (I : Nat → Nat → Int32) (L : Nat → Nat → Int64), m < f → m + k = N → okA S B.1 → B.1.2.2.1 + m < 990 → cS I (P 12 0) S → cA I L 92 S B.1 → gotR 101 I B.2 → ruX n K P I rs fo → ∃ J M, mX11_tryHours_9 K P f I L (nI N) (nI k) = some (J, M) ∧ cA J M 92 S (goA S (ruF rs fo) m B).1 ∧ gotR 101 J (goA S (ruF rs fo) m B).2 ∧ ∀ b, b < 92 ∨ 101 < b → J b = I b ∧ M b = L b
  | 0, m, k, B, I, L, h1, _, _, _, _, _, _, _ => absurd h1 (by omega)
  | f + 1, m, k, B, I, L, h1, h2, hA, hh, C, hC, hg, R => by
    rw [mX11_tryHours_9]
    cases m with
    | zero =>
      refine ⟨I, L, ?_, hC, hg, fun _ _ => ⟨rfl, rfl⟩⟩
      simp (disch := omega) only [↓reduceIte, Option.bind_some, Option.some.injEq, Prod.mk.injEq, and_self, and_true, true_and, eq_self, reduceCtorEq, not_false_eq_true, not_true_eq_false, or_true, true_or, or_false, false_or, bft, nAdd, nMul, nSub, nDiv, nRem, nAm1, nIx, nIn, bI_z, bI_o, ite_b1, ite_b0, zI_add, zI_sub, li0, li1, li2, li3, li4, li5, li6, li7, li8, li9, li10, li11, li12, li13, li14, li15, li16, li17, li18, li19, li20, li21, li22, li23, li24, li25, li26, li27, li28, li29, li30, li31, li32, li33, li34, li35, li36, li37, li40, li42, li43, li45, li47, li48, li57, li59, li60, li61, li62, li64, li80, li91, li93, li97, li99, li100, li122, li182, li199, li255, li300, li380, li400, li999, li1000, li3640, li4100, li65536, li99999, ln1, ln2, ln3, ln100, ln100000, tLe, fLe, tLt, fLt, tEq, fEq, zLe_t, zLe_f, zLt_t, zLt_f, zEq_t, zEq_f, nzLe_t, nzLe_f, znLe_t, znLe_f, nzLt_t, nzLt_f, znLt_t, znLt_f, nzEq_t, nzEq_f, znEq_t, znEq_f]
    | succ m =>
      obtain ⟨rp, J1, M1, t1, t2, t3, t4, t5⟩ := tryOne O hlen hok hf1 hf2 hA (by omega) ps C hC hg R
      obtain ⟨p1, p2, p3⟩ := okA_pass O (ruF rs fo) hA (by omega) B.2
      obtain ⟨J, M, u1, u2, u3, u4⟩ := tryH_go O hlen hok hf1 hf2 ps hN f m (k + 1) (passA S (ruF rs fo) B.1 B.2).1 J1 M1 (by omega) (by omega) p1 (by omega) (cS_congr (fun b h3 h4 => (t5 b (by omega)).1) C) t3 t4 (ruX_congr (fun b hb => (t5 b (by omega)).1) R)
      refine ⟨J, M, ?_, u2, u3, fun b hb => ⟨((u4 b hb).1).trans (t5 b hb).1, ((u4 b hb).2).trans (t5 b hb).2⟩⟩
      simp (disch := omega) only [↓reduceIte, Option.bind_some, Option.some.injEq, Prod.mk.injEq, and_self, and_true, true_and, eq_self, reduceCtorEq, not_false_eq_true, not_true_eq_false, or_true, true_or, or_false, false_or, bft, nAdd, nMul, nSub, nDiv, nRem, nAm1, nIx, nIn, bI_z, bI_o, ite_b1, ite_b0, zI_add, zI_sub, li0, li1, li2, li3, li4, li5, li6, li7, li8, li9, li10, li11, li12, li13, li14, li15, li16, li17, li18, li19, li20, li21, li22, li23, li24, li25, li26, li27, li28, li29, li30, li31, li32, li33, li34, li35, li36, li37, li40, li42, li43, li45, li47, li48, li57, li59, li60, li61, li62, li64, li80, li91, li93, li97, li99, li100, li122, li182, li199, li255, li300, li380, li400, li999, li1000, li3640, li4100, li65536, li99999, ln1, ln2, ln3, ln100, ln100000, tLe, fLe, tLt, fLt, tEq, fEq, zLe_t, zLe_f, zLt_t, zLt_f, zEq_t, zEq_f, nzLe_t, nzLe_f, znLe_t, znLe_f, nzLt_t, nzLt_f, znLt_t, znLt_f, nzEq_t, nzEq_f, znEq_t, znEq_f, t1, t2]
      exact u1
theorem forget_ok (I : Nat → Nat → Int32) : ∃ J, mX2_forgetRents I = some J ∧ gotR 101 J (fun _ => 0) ∧ ∀ b, b ≠ 101 → J b = I b := by
  refine ⟨xu (xu (xu (xu I 101 0 (nI 0)) 101 1 (nI 0)) 101 2 (nI 0)) 101 3 (nI 0), ?_, fun q hq => ?_, fun b hb => by rw [xu_r hb, xu_r hb, xu_r hb, xu_r hb]⟩
  · unfold mX2_forgetRents mJ7_fill_53178
    rw [xf_s, mJ7_fill_53178_5, mJ7_fill_53178_5, mJ7_fill_53178_5, mJ7_fill_53178_5, mJ7_fill_53178_5]
    simp (disch := omega) only [↓reduceIte, Option.bind_some, Option.some.injEq, Prod.mk.injEq, and_self, and_true, true_and, eq_self, reduceCtorEq, not_false_eq_true, not_true_eq_false, or_true, true_or, or_false, false_or, bft, nAdd, nMul, nSub, nDiv, nRem, nAm1, nIx, nIn, bI_z, bI_o, ite_b1, ite_b0, zI_add, zI_sub, li0, li1, li2, li3, li4, li5, li6, li7, li8, li9, li10, li11, li12, li13, li14, li15, li16, li17, li18, li19, li20, li21, li22, li23, li24, li25, li26, li27, li28, li29, li30, li31, li32, li33, li34, li35, li36, li37, li40, li42, li43, li45, li47, li48, li57, li59, li60, li61, li62, li64, li80, li91, li93, li97, li99, li100, li122, li182, li199, li255, li300, li380, li400, li999, li1000, li3640, li4100, li65536, li99999, ln1, ln2, ln3, ln100, ln100000, tLe, fLe, tLt, fLt, tEq, fEq, zLe_t, zLe_f, zLt_t, zLt_f, zEq_t, zEq_f, nzLe_t, nzLe_f, znLe_t, znLe_f, nzLt_t, nzLt_f, znLt_t, znLt_f, nzEq_t, nzEq_f, znEq_t, znEq_f]
  · rcases (show q = 0 ∨ q = 1 ∨ q = 2 ∨ q = 3 by omega) with rfl | rfl | rfl | rfl <;> simp (disch := omega) only [↓reduceIte, Option.bind_some, Option.some.injEq, Prod.mk.injEq, and_self, and_true, true_and, eq_self, reduceCtorEq, not_false_eq_true, not_true_eq_false, or_true, true_or, or_false, false_or, bft, nAdd, nMul, nSub, nDiv, nRem, nAm1, nIx, nIn, bI_z, bI_o, ite_b1, ite_b0, zI_add, zI_sub, li0, li1, li2, li3, li4, li5, li6, li7, li8, li9, li10, li11, li12, li13, li14, li15, li16, li17, li18, li19, li20, li21, li22, li23, li24, li25, li26, li27, li28, li29, li30, li31, li32, li33, li34, li35, li36, li37, li40, li42, li43, li45, li47, li48, li57, li59, li60, li61, li62, li64, li80, li91, li93, li97, li99, li100, li122, li182, li199, li255, li300, li380, li400, li999, li1000, li3640, li4100, li65536, li99999, ln1, ln2, ln3, ln100, ln100000, tLe, fLe, tLt, fLt, tEq, fEq, zLe_t, zLe_f, zLt_t, zLt_f, zEq_t, zEq_f, nzLe_t, nzLe_f, znLe_t, znLe_f, nzLt_t, nzLt_f, znLt_t, znLt_f, nzEq_t, nzEq_f, znEq_t, znEq_f, xu_s, xu_r, xu_c, xrow_at, xrow_r]
/-- n hours of the class from a state on the trial state -/
theorem tryH_ok {rs : List ruT} {fo : Int} {S : sT} {A : aT} {N : Nat} (O : okS S) (hlen : rs.length ≤ 6) (hok : ∀ ru ∈ rs, okRu ru) (hf1 : -1 ≤ fo) (hf2 : fo < rs.length) (hA : okA S A) (hh : A.2.2.1 + N < 990) (ps : P 12 0 = 13 ∨ 171 < P 12 0) (C : cS I (P 12 0) S) (hC : cA I L 92 S A) (R : ruX n K P I rs fo) : ∃ J M, mX11_tryHours K P I L (nI N) = some (J, M) ∧ cA J M 92 S (goA S (ruF rs fo) N (A, fun _ => 0)).1 ∧ gotR 101 J (goA S (ruF rs fo) N (A, fun _ => 0)).2 ∧ ∀ b, b < 92 ∨ 101 < b → J b = I b ∧ M b = L b := by
  obtain ⟨I1, i1, i2, i3⟩ := forget_ok I
  obtain ⟨J, M, u1, u2, u3, u4⟩ := tryH_go (n := n) (K := K) O hlen hok hf1 hf2 ps (show N < 1000 by omega) xf N 0 (A, fun _ => 0) I1 L (by unfold xf; omega) (by omega) hA hh (cS_congr (fun b h3 h4 => i3 b (by omega)) C) (cA_congr (i3 _ (by decide)) (i3 _ (by decide)) rfl hC) i2 (ruX_congr (fun b hb => i3 b (by omega)) R)
  refine ⟨J, M, ?_, u2, u3, fun b hb => ⟨((u4 b hb).1).trans (i3 b (by omega)), (u4 b hb).2⟩⟩
  unfold mX11_tryHours
  simp (disch := omega) only [↓reduceIte, Option.bind_some, Option.some.injEq, Prod.mk.injEq, and_self, and_true, true_and, eq_self, reduceCtorEq, not_false_eq_true, not_true_eq_false, or_true, true_or, or_false, false_or, bft, nAdd, nMul, nSub, nDiv, nRem, nAm1, nIx, nIn, bI_z, bI_o, ite_b1, ite_b0, zI_add, zI_sub, li0, li1, li2, li3, li4, li5, li6, li7, li8, li9, li10, li11, li12, li13, li14, li15, li16, li17, li18, li19, li20, li21, li22, li23, li24, li25, li26, li27, li28, li29, li30, li31, li32, li33, li34, li35, li36, li37, li40, li42, li43, li45, li47, li48, li57, li59, li60, li61, li62, li64, li80, li91, li93, li97, li99, li100, li122, li182, li199, li255, li300, li380, li400, li999, li1000, li3640, li4100, li65536, li99999, ln1, ln2, ln3, ln100, ln100000, tLe, fLe, tLt, fLt, tEq, fEq, zLe_t, zLe_f, zLt_t, zLt_f, zEq_t, zEq_f, nzLe_t, nzLe_f, znLe_t, znLe_f, nzLt_t, nzLt_f, znLt_t, znLt_f, nzEq_t, nzEq_f, znEq_t, znEq_f, i1]
  exact u1
end
/-- n hours of the reference, and back -/
theorem rAsk_ok {ru : Option ruT} {S : sT} {A : aT} {N : Nat} {I : Nat → Nat → Int32} {L : Nat → Nat → Int64} (O : okS S) (hA : okA S A) (hh : A.2.2.1 + N < 1000) (R : rSn I S) (RA : rAn I S A) (U : rRo I ru) : ∃ J J2 M, mX12_keepsAll I = some J ∧ mX12_goes J L (nI N) = some (J2, M) ∧ rSn J2 S ∧ rAn J2 S (goA S ru N (A, fun _ => 0)).1 ∧ gotR 161 J2 (goA S ru N (A, fun _ => 0)).2 ∧ sv I J2 ∧ aR I J2 ∧ (∀ b, b ≠ 158 → b ≠ 159 → M b = L b) := by
  obtain ⟨J, j1, j2, j3, j4, j5⟩ := keepsAll_ok I
  have e : ∀ b i, b ≠ 170 → b ≠ 161 → b ≠ 123 → J b i = I b i := fun b i h1 h2 h3 => j5 b i h1 h2 (Or.inl h3)
  have R1 : rSn J S := rS_congr O (fun i _ => e 124 i (by decide) (by decide) (by decide)) (fun i _ => e 125 i (by decide) (by decide) (by decide)) (fun i _ => e 126 i (by decide) (by decide) (by decide)) (fun i _ => e 127 i (by decide) (by decide) (by decide)) (fun i _ => e 129 i (by decide) (by decide) (by decide)) (fun i _ => e 130 i (by decide) (by decide) (by decide)) R
  have RA1 : rAn J S A := rA_congr O hA (e 124 8 (by decide) (by decide) (by decide)) (e 124 9 (by decide) (by decide) (by decide)) (fun i _ => e 128 i (by decide) (by decide) (by decide)) (fun i _ => e 131 i (by decide) (by decide) (by decide)) (fun i _ => e 132 i (by decide) (by decide) (by decide)) (fun i _ => e 133 i (by decide) (by decide) (by decide)) RA
  have U1 : rRo J ru := by
    cases ru with
    | none => exact (e 124 12 (by decide) (by decide) (by decide)).trans U
    | some r =>
      obtain ⟨s, h1, h2, h3, h4⟩ := U
      exact ⟨s, h1, (e 124 12 (by decide) (by decide) (by decide)).trans h2, rR_congr (fun b h5 h6 => funext (fun i => e b i (by omega) (by omega) (by omega))) h3, h4⟩
  obtain ⟨J2, M, g1, g2, g3, g4, g5⟩ := goes_ok (L := L) (n := N) O hA hh R1 RA1 U1 j3
  exact ⟨J, J2, M, j1, g1, rSn_f g4 R1, g2, g3, sv_f g4 j2, aR_trans j4 (aR_f g4), g5⟩

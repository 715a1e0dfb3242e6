/-! The reference's counts and owners of things. -/
theorem xf_s : xf = 999999 + 1 := rfl
theorem cntF_congr {o1 o2 : Nat → Int} {q : Nat} : ∀ (n k : Nat), (∀ j, k ≤ j → j < k + n → o1 j = o2 j) → cntF o1 q n k = cntF o2 q n k
  | 0, _, _ => rfl
  | n + 1, k, h => by rw [cntF, cntF, h k (by omega) (by omega), cntF_congr n (k + 1) (fun j h1 h2 => h j (by omega) (by omega))]
/-- who owns a cell by the coats that count -/
def ownV (S : sT) (A : aT) (ah : Bool) (hr c : Nat) : Int := ownL (sSuit S) (sDry S) (seenL ah (A.1 c) hr) hr
def cntV (S : sT) (A : aT) (ah : Bool) (hr t q : Nat) : Nat := cntF (ownV S A ah hr) q (sFi S (t + 1) - sFi S t) (sFi S t)
theorem cntV_T (S : sT) (A : aT) (t q : Nat) : cntV S A false A.2.2.1 t q = cntT S A t q := rfl
theorem seenL_mem {ah : Bool} {hr : Nat} : ∀ {l : List Nat} {x : Nat}, x ∈ seenL ah l hr → x ∈ l := by
  intro l x h
  cases ah with
  | false => exact h
  | true =>
    change x ∈ aheadL l hr at h
    induction l with
    | nil => exact h
    | cons y l ih =>
      rw [aheadL] at h
      by_cases q : hr + 2 ≤ y / 4
      · rw [if_pos q] at h; exact List.mem_cons_of_mem _ (ih h)
      · rw [if_neg q] at h; exact h
theorem seenL_ok {ah : Bool} {l : List Nat} (hr : Nat) (h : okC l) : okC (seenL ah l hr) := by
  cases ah with
  | false => exact h
  | true => exact aheadL_ok hr h
theorem rowB_seen {b w : Nat → Int32} {hr : Nat} {ah : Bool} {l : List Nat} (h : rowB l b w) : rowB (seenL ah l hr) b w := by
  cases ah with
  | false => exact h
  | true => exact rowB_ahead h
theorem ownV_rng {S : sT} {A : aT} (hA : okA S A) (ah : Bool) (hr : Nat) {c : Nat} (hc : c < sCe S) : ownV S A ah hr c = -1 ∨ ∃ q : Nat, q < sPa S ∧ ownV S A ah hr c = q :=
  ownL_rng _ _ _ _ _ (fun x hx => (hA.1 c hc).2 x (seenL_mem hx))
theorem rLayers_ok {e86 : (Nat → Nat → Int32) → Int32 → Int32 → Int32 → Int32 → Int32 → Option (Nat → Nat → Int32)} {I : Nat → Nat → Int32} {a1 : Int32} {hr c : Nat} (ah : Bool) (hh : hr < 100000) (hc : c < 16) {l : List Nat} (hl : okC l) (hb : rowB l (fun i => I 132 (5 * c + i)) (fun i => I 133 (5 * c + i))) : mX12_countsCells_53 e86 xf I a1 (nI hr) (bI ah) (nI c) (nI l.length) = e86 I a1 (nI hr) (bI ah) (nI c) (nI (seenL ah l hr).length) := by
  cases ah with
  | false => rw [xf_s, mX12_countsCells_53, if_pos (by rfl)]; rfl
  | true => exact rLayers_go hh hc xf l (by have := hl.1; unfold xf; omega) hl hb
theorem rCnt_go {S : sT} {A : aT} (O : okS S) (hA : okA S A) {hr : Nat} (hh : hr < 100000) {t : Nat} (ht : t < sTh S) (ah : Bool) : ∀ (f n k : Nat) (I : Nat → Nat → Int32) (g : Nat → Nat), n < f → n + k = sFi S (t + 1) → sFi S t ≤ k → rSn I S → rAn I S A → (∀ q, q < 4 → I 160 q = nI (g q)) → ∃ J, mX12_countsCells_31 f I (nI t) (nI hr) (bI ah) (nI k) = some J ∧ (∀ b, b ≠ 160 → J b = I b) ∧ ∀ q, q < 4 → J 160 q = nI (g q + cntF (ownV S A ah hr) q n k)
  | 0, n, k, I, g, h1, _, _, _, _, _ => absurd h1 (by omega)
  | f + 1, n, k, I, g, h1, h2, h3, R, RA, hg => by
    have o1 := O.1
    have ot := O.2.1.2.2 t ht
    rw [mX12_countsCells_31]
    cases n with
    | zero =>
      refine ⟨I, ?_, fun _ _ => rfl, fun q hq => by simpa [cntF] using hg q hq⟩
      simp (disch := omega) only [↓reduceIte, Option.bind_some, Option.some.injEq, Prod.mk.injEq, and_self, and_true, true_and, eq_self, reduceCtorEq, not_false_eq_true, not_true_eq_false, or_true, true_or, or_false, false_or, bft, nAdd, nMul, nSub, nDiv, nRem, nAm1, nIx, nIn, bI_z, bI_o, ite_b1, ite_b0, zI_add, zI_sub, li0, li1, li2, li3, li4, li5, li6, li7, li8, li9, li10, li11, li12, li13, li14, li15, li16, li17, li18, li19, li20, li21, li22, li23, li24, li25, li26, li27, li28, li29, li30, li31, li32, li33, li34, li35, li36, li37, li40, li42, li43, li45, li47, li48, li57, li59, li60, li61, li62, li64, li80, li91, li93, li97, li99, li100, li122, li182, li199, li255, li300, li380, li400, li999, li1000, li3640, li4100, li65536, li99999, ln1, ln2, ln3, ln100, ln100000, tLe, fLe, tLt, fLt, tEq, fEq, zLe_t, zLe_f, zLt_t, zLt_f, zEq_t, zEq_f, nzLe_t, nzLe_f, znLe_t, znLe_f, nzLt_t, nzLt_f, znLt_t, znLt_f, nzEq_t, nzEq_f, znEq_t, znEq_f, R.2.1 (t + 1) (by omega)]
    | succ n =>
      have hk : k < sCe S := by omega
      have r := RA.2.2.2 k hk
      have hl := (hA.1 k hk).1
      have hv := ownV_rng hA ah hr hk
      simp (disch := omega) only [↓reduceIte, Option.bind_some, Option.some.injEq, Prod.mk.injEq, and_self, and_true, true_and, eq_self, reduceCtorEq, not_false_eq_true, not_true_eq_false, or_true, true_or, or_false, false_or, bft, nAdd, nMul, nSub, nDiv, nRem, nAm1, nIx, nIn, bI_z, bI_o, ite_b1, ite_b0, zI_add, zI_sub, li0, li1, li2, li3, li4, li5, li6, li7, li8, li9, li10, li11, li12, li13, li14, li15, li16, li17, li18, li19, li20, li21, li22, li23, li24, li25, li26, li27, li28, li29, li30, li31, li32, li33, li34, li35, li36, li37, li40, li42, li43, li45, li47, li48, li57, li59, li60, li61, li62, li64, li80, li91, li93, li97, li99, li100, li122, li182, li199, li255, li300, li380, li400, li999, li1000, li3640, li4100, li65536, li99999, ln1, ln2, ln3, ln100, ln100000, tLe, fLe, tLt, fLt, tEq, fEq, zLe_t, zLe_f, zLt_t, zLt_f, zEq_t, zEq_f, nzLe_t, nzLe_f, znLe_t, znLe_f, nzLt_t, nzLt_f, znLt_t, znLt_f, nzEq_t, nzEq_f, znEq_t, znEq_f, R.2.1 (t + 1) (by omega), r.1]
      rw [rLayers_ok ah hh (by omega) hl r.2, mX12_countsCells_86, rOwnerBy_ok R O (by omega) hh (seenL_ok hr hl) (rowB_seen r.2) rfl]
      change ∃ J, Option.bind (some (zI (ownV S A ah hr k))) _ = some J ∧ _
      rcases hv with e | ⟨q, hq, e⟩
      · rw [e]
        simp (disch := omega) only [↓reduceIte, Option.bind_some, Option.some.injEq, Prod.mk.injEq, and_self, and_true, true_and, eq_self, reduceCtorEq, not_false_eq_true, not_true_eq_false, or_true, true_or, or_false, false_or, bft, nAdd, nMul, nSub, nDiv, nRem, nAm1, nIx, nIn, bI_z, bI_o, ite_b1, ite_b0, zI_add, zI_sub, li0, li1, li2, li3, li4, li5, li6, li7, li8, li9, li10, li11, li12, li13, li14, li15, li16, li17, li18, li19, li20, li21, li22, li23, li24, li25, li26, li27, li28, li29, li30, li31, li32, li33, li34, li35, li36, li37, li40, li42, li43, li45, li47, li48, li57, li59, li60, li61, li62, li64, li80, li91, li93, li97, li99, li100, li122, li182, li199, li255, li300, li380, li400, li999, li1000, li3640, li4100, li65536, li99999, ln1, ln2, ln3, ln100, ln100000, tLe, fLe, tLt, fLt, tEq, fEq, zLe_t, zLe_f, zLt_t, zLt_f, zEq_t, zEq_f, nzLe_t, nzLe_f, znLe_t, znLe_f, nzLt_t, nzLt_f, znLt_t, znLt_f, nzEq_t, nzEq_f, znEq_t, znEq_f]
        obtain ⟨J, j1, j2, j3⟩ := rCnt_go O hA hh ht ah f n (k + 1) I g (by omega) (by omega) (by omega) R RA hg
        refine ⟨J, j1, j2, fun p hp => ?_⟩
        rw [j3 p hp, cntF, e, if_neg (by omega), Nat.zero_add]
      · rw [e, zI_nat]
        have hq4 : q < 4 := by omega
        simp (disch := omega) only [↓reduceIte, Option.bind_some, Option.some.injEq, Prod.mk.injEq, and_self, and_true, true_and, eq_self, reduceCtorEq, not_false_eq_true, not_true_eq_false, or_true, true_or, or_false, false_or, bft, nAdd, nMul, nSub, nDiv, nRem, nAm1, nIx, nIn, bI_z, bI_o, ite_b1, ite_b0, zI_add, zI_sub, li0, li1, li2, li3, li4, li5, li6, li7, li8, li9, li10, li11, li12, li13, li14, li15, li16, li17, li18, li19, li20, li21, li22, li23, li24, li25, li26, li27, li28, li29, li30, li31, li32, li33, li34, li35, li36, li37, li40, li42, li43, li45, li47, li48, li57, li59, li60, li61, li62, li64, li80, li91, li93, li97, li99, li100, li122, li182, li199, li255, li300, li380, li400, li999, li1000, li3640, li4100, li65536, li99999, ln1, ln2, ln3, ln100, ln100000, tLe, fLe, tLt, fLt, tEq, fEq, zLe_t, zLe_f, zLt_t, zLt_f, zEq_t, zEq_f, nzLe_t, nzLe_f, znLe_t, znLe_f, nzLt_t, nzLt_f, znLt_t, znLt_f, nzEq_t, nzEq_f, znEq_t, znEq_f, hg q hq4]
        obtain ⟨J, j1, j2, j3⟩ := rCnt_go O hA hh ht ah f n (k + 1) (xu I 160 q (nI (g q + 1))) (fun p => if p = q then g q + 1 else g p) (by omega) (by omega) (by omega) (rSn_congr (fun b hb => xu_r hb) R) (rAn_congr (fun b hb => xu_r hb) RA) (fun p hp => by
          by_cases w : p = q
          · subst w; rw [xu_s, if_pos rfl]
          · rw [xu_c w, if_neg w, hg p hp])
        refine ⟨J, j1, fun b hb => (j2 b hb).trans (xu_r hb), fun p hp => ?_⟩
        rw [j3 p hp, cntF, e]
        congr 1
        by_cases w : p = q
        · subst w; rw [if_pos rfl, if_pos rfl]; omega
        · rw [if_neg w, if_neg (by omega)]; omega
theorem rCountsCells_ok {S : sT} {A : aT} (O : okS S) (hA : okA S A) {hr : Nat} (hh : hr < 100000) {t : Nat} (ht : t < sTh S) (ah : Bool) {I : Nat → Nat → Int32} (R : rSn I S) (RA : rAn I S A) : ∃ J, mX12_countsCells I (nI t) (nI hr) (bI ah) = some J ∧ (∀ b, b ≠ 160 → J b = I b) ∧ ∀ q, q < 4 → J 160 q = nI (cntV S A ah hr t q) := by
  have o1 := O.1
  have ot := O.2.1.2.2 t ht
  unfold mX12_countsCells
  rw [xf_s, mX12_countsCells_3, mX12_countsCells_3, mX12_countsCells_3, mX12_countsCells_3, mX12_countsCells_3]
  simp (disch := omega) only [↓reduceIte, Option.bind_some, Option.some.injEq, Prod.mk.injEq, and_self, and_true, true_and, eq_self, reduceCtorEq, not_false_eq_true, not_true_eq_false, or_true, true_or, or_false, false_or, bft, nAdd, nMul, nSub, nDiv, nRem, nAm1, nIx, nIn, bI_z, bI_o, ite_b1, ite_b0, zI_add, zI_sub, li0, li1, li2, li3, li4, li5, li6, li7, li8, li9, li10, li11, li12, li13, li14, li15, li16, li17, li18, li19, li20, li21, li22, li23, li24, li25, li26, li27, li28, li29, li30, li31, li32, li33, li34, li35, li36, li37, li40, li42, li43, li45, li47, li48, li57, li59, li60, li61, li62, li64, li80, li91, li93, li97, li99, li100, li122, li182, li199, li255, li300, li380, li400, li999, li1000, li3640, li4100, li65536, li99999, ln1, ln2, ln3, ln100, ln100000, tLe, fLe, tLt, fLt, tEq, fEq, zLe_t, zLe_f, zLt_t, zLt_f, zEq_t, zEq_f, nzLe_t, nzLe_f, znLe_t, znLe_f, nzLt_t, nzLt_f, znLt_t, znLt_f, nzEq_t, nzEq_f, znEq_t, znEq_f, xu_s, xu_r, xu_c, xrow_at, xrow_r, R.2.1 t (by omega)]
  have z : ∀ b, b ≠ 160 → xu (xu (xu (xu I 160 0 (nI 0)) 160 1 (nI 0)) 160 2 (nI 0)) 160 3 (nI 0) b = I b := fun b hb => by rw [xu_r hb, xu_r hb, xu_r hb, xu_r hb]
  obtain ⟨J, j1, j2, j3⟩ := rCnt_go O hA hh ht ah xf (sFi S (t + 1) - sFi S t) (sFi S t) _ (fun _ => 0) (by unfold xf; omega) (by omega) (by omega) (rSn_congr z R) (rAn_congr z RA) (fun q hq => by
    rcases (show q = 0 ∨ q = 1 ∨ q = 2 ∨ q = 3 by omega) with rfl | rfl | rfl | rfl <;> simp (disch := omega) only [↓reduceIte, Option.bind_some, Option.some.injEq, Prod.mk.injEq, and_self, and_true, true_and, eq_self, reduceCtorEq, not_false_eq_true, not_true_eq_false, or_true, true_or, or_false, false_or, bft, nAdd, nMul, nSub, nDiv, nRem, nAm1, nIx, nIn, bI_z, bI_o, ite_b1, ite_b0, zI_add, zI_sub, li0, li1, li2, li3, li4, li5, li6, li7, li8, li9, li10, li11, li12, li13, li14, li15, li16, li17, li18, li19, li20, li21, li22, li23, li24, li25, li26, li27, li28, li29, li30, li31, li32, li33, li34, li35, li36, li37, li40, li42, li43, li45, li47, li48, li57, li59, li60, li61, li62, li64, li80, li91, li93, li97, li99, li100, li122, li182, li199, li255, li300, li380, li400, li999, li1000, li3640, li4100, li65536, li99999, ln1, ln2, ln3, ln100, ln100000, tLe, fLe, tLt, fLt, tEq, fEq, zLe_t, zLe_f, zLt_t, zLt_f, zEq_t, zEq_f, nzLe_t, nzLe_f, znLe_t, znLe_f, nzLt_t, nzLt_f, znLt_t, znLt_f, nzEq_t, nzEq_f, znEq_t, znEq_f, xu_s, xu_r, xu_c, xrow_at, xrow_r])
  refine ⟨J, j1, fun b hb => (j2 b hb).trans (z b hb), fun q hq => ?_⟩
  rw [j3 q hq, Nat.zero_add]
  rfl
theorem obF_zero {cnt : Nat → Nat} : ∀ (n q : Nat) (b : Int) (m : Nat), (∀ j, q ≤ j → j < q + n → cnt j = 0) → b = -1 ∨ 0 < m → (obF cnt n q b m).1 = b ∧ (obF cnt n q b m).2 = m
  | 0, _, _, _, _, _ => ⟨rfl, rfl⟩
  | n + 1, q, b, m, h, hb => by
    have h0 := h q (by omega) (by omega)
    rw [obF, h0, if_neg (by omega)]
    by_cases e : 0 = m
    · have hb1 : b = -1 := by omega
      rw [if_pos e]
      have := obF_zero n (q + 1) (-1) m (fun j h1 h2 => h j (by omega) (by omega)) (Or.inl rfl)
      rw [hb1]
      exact this
    · rw [if_neg e]
      exact obF_zero n (q + 1) b m (fun j h1 h2 => h j (by omega) (by omega)) hb
/-- who is ahead is who has some -/
theorem obF_inv {cnt : Nat → Nat} : ∀ (n q : Nat) (b : Int) (m : Nat), b = -1 ∨ 0 < m → (obF cnt n q b m).1 = -1 ∨ 0 < (obF cnt n q b m).2
  | 0, _, _, _, h => h
  | n + 1, q, b, m, h => by
    rw [obF]
    split
    · exact obF_inv n _ _ _ (Or.inr (by omega))
    · split
      · exact obF_inv n _ _ _ (Or.inl rfl)
      · exact obF_inv n _ _ _ h
theorem obF_app {cnt : Nat → Nat} : ∀ (n k q : Nat) (b : Int) (m : Nat), obF cnt (n + k) q b m = obF cnt k (q + n) (obF cnt n q b m).1 (obF cnt n q b m).2
  | 0, k, q, b, m => by rw [Nat.zero_add]; rfl
  | n + 1, k, q, b, m => by
    rw [show n + 1 + k = (n + k) + 1 by omega, obF, obF, obF_app n k, obF_app n k, obF_app n k, show q + 1 + n = q + (n + 1) by omega]
    split
    · rfl
    · split <;> rfl
theorem obF_cut {cnt : Nat → Nat} {n : Nat} (hn : n ≤ 4) (h : ∀ q, n ≤ q → q < 4 → cnt q = 0) : obF cnt 4 0 (-1) 0 = obF cnt n 0 (-1) 0 := by
  have e := obF_app (cnt := cnt) n (4 - n) 0 (-1) 0
  rw [show n + (4 - n) = 4 by omega, Nat.zero_add] at e
  have z := obF_zero (cnt := cnt) (4 - n) n (obF cnt n 0 (-1) 0).1 (obF cnt n 0 (-1) 0).2 (fun j h1 h2 => h j h1 (by omega)) (obF_inv n 0 (-1) 0 (Or.inl rfl))
  rw [e]
  exact Prod.ext z.1 z.2
theorem obF_rng {cnt : Nat → Nat} {N : Nat} : ∀ (n q : Nat) (b : Int) (m : Nat), n + q ≤ N → (b = -1 ∨ ∃ p : Nat, p < N ∧ b = p) → (obF cnt n q b m).1 = -1 ∨ ∃ p : Nat, p < N ∧ (obF cnt n q b m).1 = p
  | 0, _, _, _, _, h => h
  | n + 1, q, b, m, hN, h => by
    rw [obF]
    split
    · exact obF_rng n _ _ _ (by omega) (Or.inr ⟨q, by omega, rfl⟩)
    · split
      · exact obF_rng n _ _ _ (by omega) (Or.inl rfl)
      · exact obF_rng n _ _ _ (by omega) h
theorem ownC_rng (cnt : Nat → Nat) (n cells part : Nat) : ownC cnt n cells part = -1 ∨ ∃ p : Nat, p < n ∧ ownC cnt n cells part = p := by
  unfold ownC
  split
  · exact Or.inl rfl
  · exact obF_rng n 0 (-1) 0 (by omega) (Or.inl rfl)
theorem rOwnBC_go {I : Nat → Nat → Int32} {S : sT} (R : rSn I S) (O : okS S) {e65 : Int32 → Int32 → Int32 → Int32 → Option Int32} {a1 a2 : Int32} {cnt : Nat → Nat} (hc : ∀ q, q < 4 → I 160 q = nI (cnt q)) (hb : ∀ q, cnt q ≤ 16) : ∀ (f n q : Nat) (b : Int) (m : Nat), n < f → n + q = sPa S → m ≤ 16 → mX12_ownerByCells_8 I e65 f a1 a2 (zI b) (nI m) (nI q) = e65 a1 a2 (zI (obF cnt n q b m).1) (nI (obF cnt n q b m).2)
  | 0, n, q, b, m, h1, _, _ => absurd h1 (by omega)
  | f + 1, n, q, b, m, h1, h2, hm => by
    have o1 := O.1
    rw [mX12_ownerByCells_8]
    cases n with
    | zero => simp (disch := omega) only [↓reduceIte, Option.bind_some, Option.some.injEq, Prod.mk.injEq, and_self, and_true, true_and, eq_self, reduceCtorEq, not_false_eq_true, not_true_eq_false, or_true, true_or, or_false, false_or, bft, nAdd, nMul, nSub, nDiv, nRem, nAm1, nIx, nIn, bI_z, bI_o, ite_b1, ite_b0, zI_add, zI_sub, li0, li1, li2, li3, li4, li5, li6, li7, li8, li9, li10, li11, li12, li13, li14, li15, li16, li17, li18, li19, li20, li21, li22, li23, li24, li25, li26, li27, li28, li29, li30, li31, li32, li33, li34, li35, li36, li37, li40, li42, li43, li45, li47, li48, li57, li59, li60, li61, li62, li64, li80, li91, li93, li97, li99, li100, li122, li182, li199, li255, li300, li380, li400, li999, li1000, li3640, li4100, li65536, li99999, ln1, ln2, ln3, ln100, ln100000, tLe, fLe, tLt, fLt, tEq, fEq, zLe_t, zLe_f, zLt_t, zLt_f, zEq_t, zEq_f, nzLe_t, nzLe_f, znLe_t, znLe_f, nzLt_t, nzLt_f, znLt_t, znLt_f, nzEq_t, nzEq_f, znEq_t, znEq_f, rSn_pa R]; rfl
    | succ n =>
      have hq := hb q
      simp (disch := omega) only [↓reduceIte, Option.bind_some, Option.some.injEq, Prod.mk.injEq, and_self, and_true, true_and, eq_self, reduceCtorEq, not_false_eq_true, not_true_eq_false, or_true, true_or, or_false, false_or, bft, nAdd, nMul, nSub, nDiv, nRem, nAm1, nIx, nIn, bI_z, bI_o, ite_b1, ite_b0, zI_add, zI_sub, li0, li1, li2, li3, li4, li5, li6, li7, li8, li9, li10, li11, li12, li13, li14, li15, li16, li17, li18, li19, li20, li21, li22, li23, li24, li25, li26, li27, li28, li29, li30, li31, li32, li33, li34, li35, li36, li37, li40, li42, li43, li45, li47, li48, li57, li59, li60, li61, li62, li64, li80, li91, li93, li97, li99, li100, li122, li182, li199, li255, li300, li380, li400, li999, li1000, li3640, li4100, li65536, li99999, ln1, ln2, ln3, ln100, ln100000, tLe, fLe, tLt, fLt, tEq, fEq, zLe_t, zLe_f, zLt_t, zLt_f, zEq_t, zEq_f, nzLe_t, nzLe_f, znLe_t, znLe_f, nzLt_t, nzLt_f, znLt_t, znLt_f, nzEq_t, nzEq_f, znEq_t, znEq_f, rSn_pa R, hc q (by omega)]
      rw [obF]
      rcases Nat.lt_trichotomy (cnt q) m with w | w | w
      · simp (disch := omega) only [↓reduceIte, Option.bind_some, Option.some.injEq, Prod.mk.injEq, and_self, and_true, true_and, eq_self, reduceCtorEq, not_false_eq_true, not_true_eq_false, or_true, true_or, or_false, false_or, bft, nAdd, nMul, nSub, nDiv, nRem, nAm1, nIx, nIn, bI_z, bI_o, ite_b1, ite_b0, zI_add, zI_sub, li0, li1, li2, li3, li4, li5, li6, li7, li8, li9, li10, li11, li12, li13, li14, li15, li16, li17, li18, li19, li20, li21, li22, li23, li24, li25, li26, li27, li28, li29, li30, li31, li32, li33, li34, li35, li36, li37, li40, li42, li43, li45, li47, li48, li57, li59, li60, li61, li62, li64, li80, li91, li93, li97, li99, li100, li122, li182, li199, li255, li300, li380, li400, li999, li1000, li3640, li4100, li65536, li99999, ln1, ln2, ln3, ln100, ln100000, tLe, fLe, tLt, fLt, tEq, fEq, zLe_t, zLe_f, zLt_t, zLt_f, zEq_t, zEq_f, nzLe_t, nzLe_f, znLe_t, znLe_f, nzLt_t, nzLt_f, znLt_t, znLt_f, nzEq_t, nzEq_f, znEq_t, znEq_f]
        rw [rOwnBC_go R O hc hb f n (q + 1) _ _ (by omega) (by omega) hm, if_neg (by omega), if_neg (by omega)]
      · simp (disch := omega) only [↓reduceIte, Option.bind_some, Option.some.injEq, Prod.mk.injEq, and_self, and_true, true_and, eq_self, reduceCtorEq, not_false_eq_true, not_true_eq_false, or_true, true_or, or_false, false_or, bft, nAdd, nMul, nSub, nDiv, nRem, nAm1, nIx, nIn, bI_z, bI_o, ite_b1, ite_b0, zI_add, zI_sub, li0, li1, li2, li3, li4, li5, li6, li7, li8, li9, li10, li11, li12, li13, li14, li15, li16, li17, li18, li19, li20, li21, li22, li23, li24, li25, li26, li27, li28, li29, li30, li31, li32, li33, li34, li35, li36, li37, li40, li42, li43, li45, li47, li48, li57, li59, li60, li61, li62, li64, li80, li91, li93, li97, li99, li100, li122, li182, li199, li255, li300, li380, li400, li999, li1000, li3640, li4100, li65536, li99999, ln1, ln2, ln3, ln100, ln100000, tLe, fLe, tLt, fLt, tEq, fEq, zLe_t, zLe_f, zLt_t, zLt_f, zEq_t, zEq_f, nzLe_t, nzLe_f, znLe_t, znLe_f, nzLt_t, nzLt_f, znLt_t, znLt_f, nzEq_t, nzEq_f, znEq_t, znEq_f, mX12_ownerByCells_49, hc q (by omega)]
        rw [rOwnBC_go R O hc hb f n (q + 1) _ _ (by omega) (by omega) hq, if_neg (by omega), if_pos w, w]
      · simp (disch := omega) only [↓reduceIte, Option.bind_some, Option.some.injEq, Prod.mk.injEq, and_self, and_true, true_and, eq_self, reduceCtorEq, not_false_eq_true, not_true_eq_false, or_true, true_or, or_false, false_or, bft, nAdd, nMul, nSub, nDiv, nRem, nAm1, nIx, nIn, bI_z, bI_o, ite_b1, ite_b0, zI_add, zI_sub, li0, li1, li2, li3, li4, li5, li6, li7, li8, li9, li10, li11, li12, li13, li14, li15, li16, li17, li18, li19, li20, li21, li22, li23, li24, li25, li26, li27, li28, li29, li30, li31, li32, li33, li34, li35, li36, li37, li40, li42, li43, li45, li47, li48, li57, li59, li60, li61, li62, li64, li80, li91, li93, li97, li99, li100, li122, li182, li199, li255, li300, li380, li400, li999, li1000, li3640, li4100, li65536, li99999, ln1, ln2, ln3, ln100, ln100000, tLe, fLe, tLt, fLt, tEq, fEq, zLe_t, zLe_f, zLt_t, zLt_f, zEq_t, zEq_f, nzLe_t, nzLe_f, znLe_t, znLe_f, nzLt_t, nzLt_f, znLt_t, znLt_f, nzEq_t, nzEq_f, znEq_t, znEq_f, mX12_ownerByCells_49, hc q (by omega)]
        rw [nz q, rOwnBC_go R O hc hb f n (q + 1) _ _ (by omega) (by omega) hq, if_pos w]
theorem rOwnerByCells_ok {I : Nat → Nat → Int32} {S : sT} (R : rSn I S) (O : okS S) {cnt : Nat → Nat} (hc : ∀ q, q < 4 → I 160 q = nI (cnt q)) (hb : ∀ q, cnt q ≤ 16) (hz : ∀ q, sPa S ≤ q → q < 4 → cnt q = 0) {cells part : Nat} (h1 : cells < 1000) (h2 : part < 1000) : mX12_ownerByCells I (nI cells) (nI part) = some (zI (ownC cnt 4 cells part)) := by
  have o1 := O.1
  have hm : part * cells ≤ 1000 * 1000 := Nat.mul_le_mul (by omega) (by omega)
  unfold mX12_ownerByCells ownC
  simp (disch := omega) only [↓reduceIte, Option.bind_some, Option.some.injEq, Prod.mk.injEq, and_self, and_true, true_and, eq_self, reduceCtorEq, not_false_eq_true, not_true_eq_false, or_true, true_or, or_false, false_or, bft, nAdd, nMul, nSub, nDiv, nRem, nAm1, nIx, nIn, bI_z, bI_o, ite_b1, ite_b0, zI_add, zI_sub, li0, li1, li2, li3, li4, li5, li6, li7, li8, li9, li10, li11, li12, li13, li14, li15, li16, li17, li18, li19, li20, li21, li22, li23, li24, li25, li26, li27, li28, li29, li30, li31, li32, li33, li34, li35, li36, li37, li40, li42, li43, li45, li47, li48, li57, li59, li60, li61, li62, li64, li80, li91, li93, li97, li99, li100, li122, li182, li199, li255, li300, li380, li400, li999, li1000, li3640, li4100, li65536, li99999, ln1, ln2, ln3, ln100, ln100000, tLe, fLe, tLt, fLt, tEq, fEq, zLe_t, zLe_f, zLt_t, zLt_f, zEq_t, zEq_f, nzLe_t, nzLe_f, znLe_t, znLe_f, nzLt_t, nzLt_f, znLt_t, znLt_f, nzEq_t, nzEq_f, znEq_t, znEq_f]
  rw [rOwnBC_go R O hc hb xf (sPa S) 0 (-1) 0 (by unfold xf; omega) (by omega) (by omega), obF_cut (by omega) hz]
  have hr := obF_rng (cnt := cnt) (N := 4) (sPa S) 0 (-1) 0 (by omega) (Or.inl rfl)
  have hl := obF_lt (cnt := cnt) (N := 17) (fun q => by have := hb q; omega) (sPa S) 0 (-1) 0 (by omega)
  generalize obF cnt (sPa S) 0 (-1) 0 = r at hr hl ⊢
  rcases hr with e | ⟨p, hp, e⟩
  · rw [e]
    simp (disch := omega) only [↓reduceIte, Option.bind_some, Option.some.injEq, Prod.mk.injEq, and_self, and_true, true_and, eq_self, reduceCtorEq, not_false_eq_true, not_true_eq_false, or_true, true_or, or_false, false_or, bft, nAdd, nMul, nSub, nDiv, nRem, nAm1, nIx, nIn, bI_z, bI_o, ite_b1, ite_b0, zI_add, zI_sub, li0, li1, li2, li3, li4, li5, li6, li7, li8, li9, li10, li11, li12, li13, li14, li15, li16, li17, li18, li19, li20, li21, li22, li23, li24, li25, li26, li27, li28, li29, li30, li31, li32, li33, li34, li35, li36, li37, li40, li42, li43, li45, li47, li48, li57, li59, li60, li61, li62, li64, li80, li91, li93, li97, li99, li100, li122, li182, li199, li255, li300, li380, li400, li999, li1000, li3640, li4100, li65536, li99999, ln1, ln2, ln3, ln100, ln100000, tLe, fLe, tLt, fLt, tEq, fEq, zLe_t, zLe_f, zLt_t, zLt_f, zEq_t, zEq_f, nzLe_t, nzLe_f, znLe_t, znLe_f, nzLt_t, nzLt_f, znLt_t, znLt_f, nzEq_t, nzEq_f, znEq_t, znEq_f]
    try (split <;> rfl)
  · rw [e]
    simp (disch := omega) only [↓reduceIte, Option.bind_some, Option.some.injEq, Prod.mk.injEq, and_self, and_true, true_and, eq_self, reduceCtorEq, not_false_eq_true, not_true_eq_false, or_true, true_or, or_false, false_or, bft, nAdd, nMul, nSub, nDiv, nRem, nAm1, nIx, nIn, bI_z, bI_o, ite_b1, ite_b0, zI_add, zI_sub, li0, li1, li2, li3, li4, li5, li6, li7, li8, li9, li10, li11, li12, li13, li14, li15, li16, li17, li18, li19, li20, li21, li22, li23, li24, li25, li26, li27, li28, li29, li30, li31, li32, li33, li34, li35, li36, li37, li40, li42, li43, li45, li47, li48, li57, li59, li60, li61, li62, li64, li80, li91, li93, li97, li99, li100, li122, li182, li199, li255, li300, li380, li400, li999, li1000, li3640, li4100, li65536, li99999, ln1, ln2, ln3, ln100, ln100000, tLe, fLe, tLt, fLt, tEq, fEq, zLe_t, zLe_f, zLt_t, zLt_f, zEq_t, zEq_f, nzLe_t, nzLe_f, znLe_t, znLe_f, nzLt_t, nzLt_f, znLt_t, znLt_f, nzEq_t, nzEq_f, znEq_t, znEq_f]
    by_cases w : r.2 * 100 < part * cells
    · rw [if_pos w, if_pos ((nLt (by omega) (by omega)).mpr (by omega))]
    · rw [if_neg w, if_neg (fun c => w (by have := (nLt (by omega) (by omega)).mp c; omega))]

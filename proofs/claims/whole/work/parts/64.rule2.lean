/-! Rules: clauses, and what a rule is worth. -/
abbrev ruT : Type := List Nat × List (Nat × Nat)
def evV (env : Nat → Int64) (seg : List Nat) : Int64 := match evC env seg [] with
  | some (v :: _) => v
  | _ => 0
def sgC (code : List Nat) (s t : Nat) : List Nat := (code.take t).drop s
def vaF (env : Nat → Int64) (code : List Nat) : List (Nat × Nat) → Nat → Int64
  | [], _ => 0
  | (t, e) :: r, s => if t = e ∨ evV env (sgC code t e) ≠ 0 then evV env (sgC code s t) else vaF env code r e
def valR (ru : ruT) (env : Nat → Int64) : Int64 := vaF env ru.1 ru.2 0
def okSg (b : Bool) (seg : List Nat) : Prop := ∀ env, ∃ v, evC env seg [] = some [v] ∧ (b = true → v = 0 ∨ v = 1)
def okCl (code : List Nat) : List (Nat × Nat) → Nat → Prop
  | [], _ => True
  | (t, e) :: r, s => (s ≤ t ∧ t ≤ e ∧ e ≤ code.length ∧ okSg false (sgC code s t) ∧ (t = e ∨ okSg true (sgC code t e))) ∧ okCl code r e
def okRu (ru : ruT) : Prop := ru.1.length < 300 ∧ ru.2.length ≤ 12 ∧ nvC ru.1 ≤ 60 ∧ (∀ x ∈ ru.1, okI x) ∧ okCl ru.1 ru.2 0
theorem nvC_app : ∀ (a b : List Nat), nvC (a ++ b) = nvC a + nvC b
  | [], b => by rw [List.nil_append, nvC, Nat.zero_add]
  | x :: a, b => by rw [List.cons_append, nvC, nvC, nvC_app a b, Nat.add_assoc]
theorem nvC_take (c : List Nat) (k : Nat) : nvC (c.take k) ≤ nvC c := by
  have := nvC_app (c.take k) (c.drop k)
  rw [List.take_append_drop] at this
  omega
theorem nvC_drop (c : List Nat) (k : Nat) : nvC (c.drop k) ≤ nvC c := by
  have := nvC_app (c.take k) (c.drop k)
  rw [List.take_append_drop] at this
  omega
theorem nvC_sg (c : List Nat) (s t : Nat) : nvC (sgC c s t) ≤ nvC c := Nat.le_trans (nvC_drop _ _) (nvC_take _ _)
theorem okSg_v {b : Bool} {seg : List Nat} (h : okSg b seg) (env : Nat → Int64) : evC env seg [] = some [evV env seg] ∧ (b = true → evV env seg = 0 ∨ evV env seg = 1) := by
  obtain ⟨v, e, p⟩ := h env
  have : evV env seg = v := by unfold evV; rw [e]
  rw [this]
  exact ⟨e, p⟩
def cR (K : Nat → Nat × Nat) (I : Nat → Nat → Int32) (a : Nat) (ru : ruT) : Prop := (K (a + 1)).2 = ru.1.length ∧ (K (a + 2)).2 = ru.2.length ∧ (K (a + 3)).2 = ru.2.length ∧ (∀ i x, ru.1[i]? = some x → I (a + 1) i = nI x) ∧ ∀ k t e, ru.2[k]? = some (t, e) → I (a + 2) k = nI t ∧ I (a + 3) k = nI e
theorem stk_nil (f : Nat → Int64) : stk [] f := fun i x h => by simp at h
section
variable {K : Nat → Nat × Nat} {I : Nat → Nat → Int32} {a : Nat} {ru : ruT} {env : Nat → Int64}
theorem run_ok (C : cR K I a ru) (ok : okRu ru) {b : Bool} {s t : Nat} (hs : s ≤ t) (ht : t ≤ ru.1.length) (hg : okSg b (sgC ru.1 s t)) {L : Nat → Nat → Int64} (hE : ∀ i, i < 13 → L 96 i = env i) : ∃ L', mX3_run K I L a (nI s) (nI t) 96 13 97 60 = some (evV env (sgC ru.1 s t), L') ∧ ∀ b, b ≠ 97 → L' b = L b := by
  have o1 := ok.1
  have o3 := ok.2.2.1
  exact run_go C.1 C.2.2.2.1 (by omega) ok.2.2.2.1 ht xf s [] L (by unfold xf; omega) hs hE (stk_nil _) (by have := nvC_sg ru.1 s t; unfold sgC at this; simp only [List.length_nil]; omega) (okSg_v hg env).1
theorem cl_cons {cl : List (Nat × Nat)} {k : Nat} (h : k < cl.length) : ∃ t e, cl[k]? = some (t, e) ∧ cl.drop k = (t, e) :: cl.drop (k + 1) := ⟨(cl[k]'h).1, (cl[k]'h).2, List.getElem?_eq_getElem h, List.drop_eq_getElem_cons h⟩
theorem val_go (C : cR K I a ru) (ok : okRu ru) : ∀ (f k s : Nat) (L : Nat → Nat → Int64), ru.2.length - k < f → k ≤ ru.2.length → okCl ru.1 (ru.2.drop k) s → (∀ i, i < 13 → L 96 i = env i) → ∃ L', mX3_valueFor_5 K I (mX3_valueFor_67 K I) f L a 96 13 97 60 (nI s) (nI k) = some (vaF env ru.1 (ru.2.drop k) s, L') ∧ ∀ b, b ≠ 97 → L' b = L b
  | 0, k, s, L, h1, _, _, _ => absurd h1 (by omega)
  | f + 1, k, s, L, h1, h2, hc, hE => by
    have o2 := ok.2.1
    have o1 := ok.1
    rw [mX3_valueFor_5]
    rcases Nat.eq_or_lt_of_le h2 with rfl | hk
    · refine ⟨L, ?_, fun _ _ => rfl⟩
      rw [List.drop_length, vaF]
      simp (disch := omega) only [↓reduceIte, Option.bind_some, Option.some.injEq, Prod.mk.injEq, and_self, and_true, true_and, eq_self, reduceCtorEq, not_false_eq_true, not_true_eq_false, or_true, true_or, or_false, false_or, bft, nAdd, nMul, nSub, nDiv, nRem, nAm1, nIx, nIn, bI_z, bI_o, ite_b1, ite_b0, zI_add, zI_sub, li0, li1, li2, li3, li4, li5, li6, li7, li8, li9, li10, li11, li12, li13, li14, li15, li16, li17, li18, li19, li20, li21, li22, li23, li24, li25, li26, li27, li28, li29, li30, li31, li32, li33, li34, li35, li36, li37, li40, li42, li43, li45, li47, li48, li57, li59, li60, li61, li62, li64, li80, li91, li93, li97, li99, li100, li122, li182, li199, li255, li300, li380, li400, li999, li1000, li3640, li4100, li65536, li99999, ln1, ln2, ln3, ln100, ln100000, tLe, fLe, tLt, fLt, tEq, fEq, zLe_t, zLe_f, zLt_t, zLt_f, zEq_t, zEq_f, nzLe_t, nzLe_f, znLe_t, znLe_f, nzLt_t, nzLt_f, znLt_t, znLt_f, nzEq_t, nzEq_f, znEq_t, znEq_f, C.2.1]
    · obtain ⟨t, e, hx, hd⟩ := cl_cons hk
      rw [hd, okCl] at hc
      obtain ⟨⟨c1, c2, c3, c4, c5⟩, c6⟩ := hc
      have hI := C.2.2.2.2 k t e hx
      rw [hd, vaF]
      by_cases w : t = e
      · subst w
        obtain ⟨L', r1, r2⟩ := run_ok (env := env) C ok c1 (by omega) c4 hE
        rw [if_pos (Or.inl rfl)]
        refine ⟨L', ?_, r2⟩
        simp (disch := omega) only [↓reduceIte, Option.bind_some, Option.some.injEq, Prod.mk.injEq, and_self, and_true, true_and, eq_self, reduceCtorEq, not_false_eq_true, not_true_eq_false, or_true, true_or, or_false, false_or, bft, nAdd, nMul, nSub, nDiv, nRem, nAm1, nIx, nIn, bI_z, bI_o, ite_b1, ite_b0, zI_add, zI_sub, li0, li1, li2, li3, li4, li5, li6, li7, li8, li9, li10, li11, li12, li13, li14, li15, li16, li17, li18, li19, li20, li21, li22, li23, li24, li25, li26, li27, li28, li29, li30, li31, li32, li33, li34, li35, li36, li37, li40, li42, li43, li45, li47, li48, li57, li59, li60, li61, li62, li64, li80, li91, li93, li97, li99, li100, li122, li182, li199, li255, li300, li380, li400, li999, li1000, li3640, li4100, li65536, li99999, ln1, ln2, ln3, ln100, ln100000, tLe, fLe, tLt, fLt, tEq, fEq, zLe_t, zLe_f, zLt_t, zLt_f, zEq_t, zEq_f, nzLe_t, nzLe_f, znLe_t, znLe_f, nzLt_t, nzLt_f, znLt_t, znLt_f, nzEq_t, nzEq_f, znEq_t, znEq_f, C.2.1, C.2.2.1, hI.1, hI.2, mX3_valueFor_67, r1]
      · have c7 := c5.resolve_left w
        obtain ⟨L1, r1, r2⟩ := run_ok (env := env) C ok c2 (by omega) c7 hE
        simp (disch := omega) only [↓reduceIte, Option.bind_some, Option.some.injEq, Prod.mk.injEq, and_self, and_true, true_and, eq_self, reduceCtorEq, not_false_eq_true, not_true_eq_false, or_true, true_or, or_false, false_or, bft, nAdd, nMul, nSub, nDiv, nRem, nAm1, nIx, nIn, bI_z, bI_o, ite_b1, ite_b0, zI_add, zI_sub, li0, li1, li2, li3, li4, li5, li6, li7, li8, li9, li10, li11, li12, li13, li14, li15, li16, li17, li18, li19, li20, li21, li22, li23, li24, li25, li26, li27, li28, li29, li30, li31, li32, li33, li34, li35, li36, li37, li40, li42, li43, li45, li47, li48, li57, li59, li60, li61, li62, li64, li80, li91, li93, li97, li99, li100, li122, li182, li199, li255, li300, li380, li400, li999, li1000, li3640, li4100, li65536, li99999, ln1, ln2, ln3, ln100, ln100000, tLe, fLe, tLt, fLt, tEq, fEq, zLe_t, zLe_f, zLt_t, zLt_f, zEq_t, zEq_f, nzLe_t, nzLe_f, znLe_t, znLe_f, nzLt_t, nzLt_f, znLt_t, znLt_f, nzEq_t, nzEq_f, znEq_t, znEq_f, C.2.1, C.2.2.1, hI.1, hI.2, r1, cmpEq]
        by_cases z : evV env (sgC ru.1 t e) = 0
        · obtain ⟨L', r3, r4⟩ := val_go C ok f (k + 1) e L1 (by omega) (by omega) c6 (fun i hi => by rw [r2 96 (by decide)]; exact hE i hi)
          rw [if_pos z, if_neg (fun c => c.elim w (fun d => d z))]
          exact ⟨L', r3, fun b hb => (r4 b hb).trans (r2 b hb)⟩
        · obtain ⟨L', r3, r4⟩ := run_ok (L := L1) (env := env) C ok c1 (by omega) c4 (fun i hi => by rw [r2 96 (by decide)]; exact hE i hi)
          rw [if_neg z, if_pos (Or.inr z), mX3_valueFor_67]
          refine ⟨L', ?_, fun b hb => (r4 b hb).trans (r2 b hb)⟩
          simp (disch := omega) only [↓reduceIte, Option.bind_some, Option.some.injEq, Prod.mk.injEq, and_self, and_true, true_and, eq_self, reduceCtorEq, not_false_eq_true, not_true_eq_false, or_true, true_or, or_false, false_or, bft, nAdd, nMul, nSub, nDiv, nRem, nAm1, nIx, nIn, bI_z, bI_o, ite_b1, ite_b0, zI_add, zI_sub, li0, li1, li2, li3, li4, li5, li6, li7, li8, li9, li10, li11, li12, li13, li14, li15, li16, li17, li18, li19, li20, li21, li22, li23, li24, li25, li26, li27, li28, li29, li30, li31, li32, li33, li34, li35, li36, li37, li40, li42, li43, li45, li47, li48, li57, li59, li60, li61, li62, li64, li80, li91, li93, li97, li99, li100, li122, li182, li199, li255, li300, li380, li400, li999, li1000, li3640, li4100, li65536, li99999, ln1, ln2, ln3, ln100, ln100000, tLe, fLe, tLt, fLt, tEq, fEq, zLe_t, zLe_f, zLt_t, zLt_f, zEq_t, zEq_f, nzLe_t, nzLe_f, znLe_t, znLe_f, nzLt_t, nzLt_f, znLt_t, znLt_f, nzEq_t, nzEq_f, znEq_t, znEq_f, C.2.1, hI.1, r3]
theorem valueFor_ok (C : cR K I a ru) (ok : okRu ru) {L : Nat → Nat → Int64} (hE : ∀ i, i < 13 → L 96 i = env i) : ∃ L', mX3_valueFor K I L a 96 13 97 60 = some (valR ru env, L') ∧ ∀ b, b ≠ 97 → L' b = L b :=
  val_go C ok xf 0 0 L (by have := ok.2.1; unfold xf; omega) (by omega) ok.2.2.2.2 hE
end
def stC (cl : List (Nat × Nat)) : Nat → Nat
  | 0 => 0
  | k + 1 => match cl[k]? with
    | some (_, e) => e
    | none => 0
/-- the reference's rule at slot s -/
def rR (I : Nat → Nat → Int32) (s : Nat) (ru : ruT) : Prop := I 153 s = nI ru.2.length ∧ (∀ i x, ru.1[i]? = some x → I 151 (300 * s + i) = nI (sortOf x) ∧ I 152 (300 * s + i) = nI (numOf x)) ∧ ∀ k t e, ru.2[k]? = some (t, e) → I 154 (12 * s + k) = nI (stC ru.2 k) ∧ I 155 (12 * s + k) = nI t ∧ I 156 (12 * s + k) = nI e
section
variable {I : Nat → Nat → Int32} {s : Nat} {ru : ruT} {env : Nat → Int64}
theorem ans_ok (C : rR I s ru) (hs : s < 6) (ok : okRu ru) {b : Bool} {p t : Nat} (hp : p ≤ t) (ht : t ≤ ru.1.length) (hg : okSg b (sgC ru.1 p t)) {L : Nat → Nat → Int64} (hE : ∀ i, i < 13 → L 158 i = env i) : ∃ L', mX12_answer I L (nI s) (nI p) (nI t) = some (evV env (sgC ru.1 p t), L') ∧ ∀ b, b ≠ 159 → L' b = L b := by
  have o1 := ok.1
  have o3 := ok.2.2.1
  exact ans_go C.2.1 (by omega) hs ok.2.2.2.1 ht xf p [] L (by unfold xf; omega) hp hE (stk_nil _) (by have := nvC_sg ru.1 p t; unfold sgC at this; simp only [List.length_nil]; omega) (okSg_v hg env).1
theorem want_go (C : rR I s ru) (hs : s < 6) (ok : okRu ru) : ∀ (f k p : Nat) (L : Nat → Nat → Int64), ru.2.length - k < f → k ≤ ru.2.length → p = stC ru.2 k → okCl ru.1 (ru.2.drop k) p → (∀ i, i < 13 → L 158 i = env i) → ∃ L', mX12_wanted_13 I (mX12_wanted_65 I) f L (nI s) (nI (12 * s + k)) = some (vaF env ru.1 (ru.2.drop k) p, L') ∧ ∀ b, b ≠ 159 → L' b = L b
  | 0, k, p, L, h1, _, _, _, _ => absurd h1 (by omega)
  | f + 1, k, p, L, h1, h2, hp, hc, hE => by
    have o2 := ok.2.1
    have o1 := ok.1
    rw [mX12_wanted_13]
    rcases Nat.eq_or_lt_of_le h2 with rfl | hk
    · refine ⟨L, ?_, fun _ _ => rfl⟩
      rw [List.drop_length, vaF]
      simp (disch := omega) only [↓reduceIte, Option.bind_some, Option.some.injEq, Prod.mk.injEq, and_self, and_true, true_and, eq_self, reduceCtorEq, not_false_eq_true, not_true_eq_false, or_true, true_or, or_false, false_or, bft, nAdd, nMul, nSub, nDiv, nRem, nAm1, nIx, nIn, bI_z, bI_o, ite_b1, ite_b0, zI_add, zI_sub, li0, li1, li2, li3, li4, li5, li6, li7, li8, li9, li10, li11, li12, li13, li14, li15, li16, li17, li18, li19, li20, li21, li22, li23, li24, li25, li26, li27, li28, li29, li30, li31, li32, li33, li34, li35, li36, li37, li40, li42, li43, li45, li47, li48, li57, li59, li60, li61, li62, li64, li80, li91, li93, li97, li99, li100, li122, li182, li199, li255, li300, li380, li400, li999, li1000, li3640, li4100, li65536, li99999, ln1, ln2, ln3, ln100, ln100000, tLe, fLe, tLt, fLt, tEq, fEq, zLe_t, zLe_f, zLt_t, zLt_f, zEq_t, zEq_f, nzLe_t, nzLe_f, znLe_t, znLe_f, nzLt_t, nzLt_f, znLt_t, znLt_f, nzEq_t, nzEq_f, znEq_t, znEq_f, C.1]
    · obtain ⟨t, e, hx, hd⟩ := cl_cons hk
      rw [hd, okCl] at hc
      obtain ⟨⟨c1, c2, c3, c4, c5⟩, c6⟩ := hc
      have hI := C.2.2 k t e hx
      rw [← hp] at hI
      rw [hd, vaF]
      by_cases w : t = e
      · subst w
        obtain ⟨L', r1, r2⟩ := ans_ok (env := env) C hs ok c1 (by omega) c4 hE
        rw [if_pos (Or.inl rfl)]
        refine ⟨L', ?_, r2⟩
        simp (disch := omega) only [↓reduceIte, Option.bind_some, Option.some.injEq, Prod.mk.injEq, and_self, and_true, true_and, eq_self, reduceCtorEq, not_false_eq_true, not_true_eq_false, or_true, true_or, or_false, false_or, bft, nAdd, nMul, nSub, nDiv, nRem, nAm1, nIx, nIn, bI_z, bI_o, ite_b1, ite_b0, zI_add, zI_sub, li0, li1, li2, li3, li4, li5, li6, li7, li8, li9, li10, li11, li12, li13, li14, li15, li16, li17, li18, li19, li20, li21, li22, li23, li24, li25, li26, li27, li28, li29, li30, li31, li32, li33, li34, li35, li36, li37, li40, li42, li43, li45, li47, li48, li57, li59, li60, li61, li62, li64, li80, li91, li93, li97, li99, li100, li122, li182, li199, li255, li300, li380, li400, li999, li1000, li3640, li4100, li65536, li99999, ln1, ln2, ln3, ln100, ln100000, tLe, fLe, tLt, fLt, tEq, fEq, zLe_t, zLe_f, zLt_t, zLt_f, zEq_t, zEq_f, nzLe_t, nzLe_f, znLe_t, znLe_f, nzLt_t, nzLt_f, znLt_t, znLt_f, nzEq_t, nzEq_f, znEq_t, znEq_f, C.1, hI.1, hI.2.1, hI.2.2, mX12_wanted_65, r1]
      · have c7 := c5.resolve_left w
        obtain ⟨L1, r1, r2⟩ := ans_ok (env := env) C hs ok c2 (by omega) c7 hE
        have c8 := (okSg_v c7 env).2 rfl
        simp (disch := omega) only [↓reduceIte, Option.bind_some, Option.some.injEq, Prod.mk.injEq, and_self, and_true, true_and, eq_self, reduceCtorEq, not_false_eq_true, not_true_eq_false, or_true, true_or, or_false, false_or, bft, nAdd, nMul, nSub, nDiv, nRem, nAm1, nIx, nIn, bI_z, bI_o, ite_b1, ite_b0, zI_add, zI_sub, li0, li1, li2, li3, li4, li5, li6, li7, li8, li9, li10, li11, li12, li13, li14, li15, li16, li17, li18, li19, li20, li21, li22, li23, li24, li25, li26, li27, li28, li29, li30, li31, li32, li33, li34, li35, li36, li37, li40, li42, li43, li45, li47, li48, li57, li59, li60, li61, li62, li64, li80, li91, li93, li97, li99, li100, li122, li182, li199, li255, li300, li380, li400, li999, li1000, li3640, li4100, li65536, li99999, ln1, ln2, ln3, ln100, ln100000, tLe, fLe, tLt, fLt, tEq, fEq, zLe_t, zLe_f, zLt_t, zLt_f, zEq_t, zEq_f, nzLe_t, nzLe_f, znLe_t, znLe_f, nzLt_t, nzLt_f, znLt_t, znLt_f, nzEq_t, nzEq_f, znEq_t, znEq_f, C.1, hI.1, hI.2.1, hI.2.2, r1, cmpEq]
        rcases c8 with z | z
        · obtain ⟨L', r3, r4⟩ := want_go C hs ok f (k + 1) e L1 (by omega) (by omega) (by rw [stC, hx]) c6 (fun i hi => by rw [r2 158 (by decide)]; exact hE i hi)
          rw [z, if_neg (by decide), if_neg (fun c => c.elim w (fun d => d rfl))]
          exact ⟨L', r3, fun b hb => (r4 b hb).trans (r2 b hb)⟩
        · obtain ⟨L', r3, r4⟩ := ans_ok (L := L1) (env := env) C hs ok c1 (by omega) c4 (fun i hi => by rw [r2 158 (by decide)]; exact hE i hi)
          rw [z, if_pos rfl, if_pos (Or.inr (by decide)), mX12_wanted_65]
          refine ⟨L', ?_, fun b hb => (r4 b hb).trans (r2 b hb)⟩
          simp (disch := omega) only [↓reduceIte, Option.bind_some, Option.some.injEq, Prod.mk.injEq, and_self, and_true, true_and, eq_self, reduceCtorEq, not_false_eq_true, not_true_eq_false, or_true, true_or, or_false, false_or, bft, nAdd, nMul, nSub, nDiv, nRem, nAm1, nIx, nIn, bI_z, bI_o, ite_b1, ite_b0, zI_add, zI_sub, li0, li1, li2, li3, li4, li5, li6, li7, li8, li9, li10, li11, li12, li13, li14, li15, li16, li17, li18, li19, li20, li21, li22, li23, li24, li25, li26, li27, li28, li29, li30, li31, li32, li33, li34, li35, li36, li37, li40, li42, li43, li45, li47, li48, li57, li59, li60, li61, li62, li64, li80, li91, li93, li97, li99, li100, li122, li182, li199, li255, li300, li380, li400, li999, li1000, li3640, li4100, li65536, li99999, ln1, ln2, ln3, ln100, ln100000, tLe, fLe, tLt, fLt, tEq, fEq, zLe_t, zLe_f, zLt_t, zLt_f, zEq_t, zEq_f, nzLe_t, nzLe_f, znLe_t, znLe_f, nzLt_t, nzLt_f, znLt_t, znLt_f, nzEq_t, nzEq_f, znEq_t, znEq_f, hI.1, hI.2.1, r3]
theorem wanted_ok (C : rR I s ru) (hs : s < 6) (ok : okRu ru) (hF : I 124 12 = nI s) {L : Nat → Nat → Int64} (hE : ∀ i, i < 13 → L 158 i = env i) : ∃ L', mX12_wanted I L = some (valR ru env, L') ∧ ∀ b, b ≠ 159 → L' b = L b := by
  unfold mX12_wanted
  rw [hF, li12, nMul]
  exact want_go C hs ok xf 0 0 L (by have := ok.2.1; unfold xf; omega) (by omega) rfl ok.2.2.2.2 hE
end

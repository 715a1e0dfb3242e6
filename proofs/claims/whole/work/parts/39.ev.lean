/-! The entry's facts: classes, array classes, texts. -/
def evF : List Cond := flatC (Jvm.Cond.and given_1 narrow_1)
def evT (i : Nat) : Term := .string (xSt.getD i ("", 0, "")).1 (xSt.getD i ("", 0, "")).2.1
def evSeg (i : Nat) : List Cond := [Cond.exactly (evT i) "java/lang/String", Cond.eq (.field (evT i) "java/lang/String" "coder" "B") (.int 0), Cond.arrayOf (.field (evT i) "java/lang/String" "value" "[B") .byte, Cond.eq (.length (.field (evT i) "java/lang/String" "value" "[B")) (.int (Int32.ofNat (xSl.getD i 0)))] ++ ((List.range (xSl.getD i 0)).map (fun j => Cond.eq (.elem (.field (evT i) "java/lang/String" "value" "[B") (.int (Int32.ofNat j))) (.int ((xSb.getD i []).getD j 0))) ++ (List.range i).map (fun k => Cond.not (Cond.eq (evT k) (evT i))))
theorem ev_all : evF.drop 45 = (List.range 24).flatMap evSeg := by decide +kernel
theorem ev_in {i : Nat} (hi : i < 24) {w : Cond} (h : w ∈ evSeg i) : w ∈ evF := by
  refine List.mem_of_mem_drop (i := 45) ?_
  rw [ev_all]
  exact List.mem_flatMap.mpr ⟨i, List.mem_range.mpr hi, h⟩
theorem ev_ex {i : Nat} (hi : i < 24) : Cond.exactly (evT i) "java/lang/String" ∈ evF := ev_in hi (by simp [evSeg])
theorem ev_co {i : Nat} (hi : i < 24) : Cond.eq (.field (evT i) "java/lang/String" "coder" "B") (.int 0) ∈ evF := ev_in hi (by simp [evSeg])
theorem ev_ar {i : Nat} (hi : i < 24) : Cond.arrayOf (.field (evT i) "java/lang/String" "value" "[B") .byte ∈ evF := ev_in hi (by simp [evSeg])
theorem ev_le {i : Nat} (hi : i < 24) : Cond.eq (.length (.field (evT i) "java/lang/String" "value" "[B")) (.int (Int32.ofNat (xSl.getD i 0))) ∈ evF := ev_in hi (by simp [evSeg])
theorem ev_el {i : Nat} (hi : i < 24) {j : Nat} (hj : j < xSl.getD i 0) : Cond.eq (.elem (.field (evT i) "java/lang/String" "value" "[B") (.int (Int32.ofNat j))) (.int ((xSb.getD i []).getD j 0)) ∈ evF :=
  ev_in hi (List.mem_append_right _ (List.mem_append_left _ (List.mem_map.mpr ⟨j, List.mem_range.mpr hj, rfl⟩)))
theorem ev_ne {k i : Nat} (hi : i < 24) (hk : k < i) : Cond.not (Cond.eq (evT k) (evT i)) ∈ evF :=
  ev_in hi (List.mem_append_right _ (List.mem_append_right _ (List.mem_map.mpr ⟨k, List.mem_range.mpr hk, rfl⟩)))
theorem ev_st : ∀ i, i < 24 → Cond.stringRef (xSt.getD i ("", 0, "")).1 (xSt.getD i ("", 0, "")).2.1 (xSt.getD i ("", 0, "")).2.2 ∈ lw_tbl := by decide +kernel
theorem ev_len : ∀ i, i < 24 → xSl.getD i 0 < 2 ^ 31 := by decide
theorem ev_S {args : Array Value} {s : State} {A : Nat → Prop} (h : (Jvm.Cond.and given_1 narrow_1).before args s = true) (hA : ∀ a : Nat, a < s.heap.size → ¬ A a) : ∃ adK adV : Nat → Nat, vk_S 24 xSl xSb adK adV A s s.heap ∧ ∀ i : Nat, i < 24 → (evT i).eval args s none [] s = some (.ref (adK i)) := by
  have hf := flat_of_before _ h
  refine vk_Sof ev_len (fun i hi => hf _ (ev_ex hi)) (fun i hi => hf _ (ev_co hi)) (fun i hi => hf _ (ev_ar hi)) (fun i hi => hf _ (ev_le hi)) (fun i hi j hj => hf _ (ev_el hi hj)) (fun i j hi hj hij => ?_) hA
  rcases Nat.lt_or_ge i j with q | q
  · exact Or.inl (hf _ (ev_ne hj q))
  · exact Or.inr (hf _ (ev_ne hi (by omega)))
theorem ev_R {args : Array Value} {s : State} {adK : Nat → Nat} (hts : ∀ w ∈ lw_tbl, w.before args s = true) (h : ∀ i : Nat, i < 24 → (evT i).eval args s none [] s = some (.ref (adK i))) (i : Nat) (q : String × Nat × String) (hq : xSt[i]? = some q) : vk_R q.1 q.2.1 q.2.2 (adK i) s := by
  have hi : i < 24 := (List.getElem?_eq_some_iff.mp hq).1
  have e : xSt.getD i ("", 0, "") = q := by rw [List.getD_eq_getElem?_getD, hq]; rfl
  have h1 := hts _ (ev_st i hi)
  have h2 := h i hi
  unfold evT at h2
  rw [e] at h1 h2
  exact vk_R.of h1 h2
/-- the array classes -/
theorem ev_aP {args : Array Value} {s : State} {ty : FieldType} (hty : ∀ C, ty ≠ .object C) (h : (Cond.arrayClass ty).before args s = true) : ∃ c, ArrOfT s c ty ∧ va_RA s c ty := by
  obtain ⟨c, k, comp, h1, h2, h3⟩ := Cond.arrayClass_spec h
  refine ⟨c, fun n z => ⟨fun k h => (by cases h), k, h2, comp, h3⟩, ?_⟩
  cases ty with
  | object C => exact absurd rfl (hty C)
  | _ => exact h1
theorem ev_aO {args : Array Value} {s : State} {C : String} (h : (Cond.arrayOver (.object C)).before args s = true) : ∃ c, ArrOfT s c (.object C) ∧ va_RA s c (.object C) := by
  obtain ⟨comp, c, k, h1, h2, h3, h4, h5⟩ := Cond.arrayOver_spec h
  exact ⟨c, fun n z => ⟨fun k h => (by cases h), k, h3, comp, h4⟩, k, comp, h3, h4, h1, h5⟩
theorem ev_aA {args : Array Value} {s : State} {t : FieldType} (h : (Cond.arrayOver (.array t)).before args s = true) : ∃ c, ArrOfT s c (.array t) ∧ va_RA s c (.array t) := by
  obtain ⟨comp, c, k, h1, h3, h4, h5⟩ := Cond.arrayOver_specA h
  exact ⟨c, fun n z => ⟨fun k h => (by cases h), k, h3, comp, h4⟩, h5⟩
theorem ev_nest : ∀ w ∈ xNest, w ∈ lw_tbl ∧ w.onTables = true := by decide +kernel

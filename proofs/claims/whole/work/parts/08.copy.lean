/-! arraycopy, arrays of arrays. -/
def xrow {α : Type} (f : Nat → Nat → α) (a : Nat) (g : Nat → α) : Nat → Nat → α := fun b => if b = a then g else f b
theorem xrow_ne {α : Type} {f : Nat → Nat → α} {a b : Nat} {g : Nat → α} (h : b ≠ a) : xrow f a g b = f b := if_neg h
theorem xrow_at {α : Type} {f : Nat → Nat → α} {a : Nat} {g : Nat → α} : xrow f a g a = g := if_pos rfl
def xcb (sp dp n : Int32) (n0 n1 : Nat) : Bool := decide (0 ≤ sp.toInt) && decide (0 ≤ dp.toInt) && decide (0 ≤ n.toInt) && decide (ix sp + ix n ≤ n0) && decide (ix dp + ix n ≤ n1)
theorem x_nn {z : Int32} (h : 0 ≤ z.toInt) : ¬ z < 0 ∧ z.toInt = (ix z : Int) := by
  refine ⟨fun q => ?_, ?_⟩
  · have := Int32.lt_iff_toInt_lt.mp q
    simp at this
    omega
  · show z.toInt = ((z.toInt.toNat : Nat) : Int)
    omega
section XCP
variable {E : xE} {B d mc ms : Nat} {y : MethodName} {cc : ByteArray} {maxL : Nat} {ret : Option FieldType} {r : Option Value × xH} {pc : Nat} {lv lv' : List (Nat × Value)} {st : List Value} {u w : Nat} {h : xH}
theorem X_copyI {idx a0 a1 n0 n1 n2 : Nat} {sp dp n : Int32} {K : Nat → Nat × Nat} {P : Nat → Nat → Nat} {I : Nat → Nat → Int32} {L : Nat → Nat → Int64} (hk0 : K a0 = (20, n0)) (hk1 : K a1 = (20, n1)) (hl1 : Cond.methodLink y.cls idx arraycopyName ∈ xTW) (hl2 : Cond.native arraycopyName ∈ xTW) (hl3 : Cond.static arraycopyName ∈ xTW) (hl4 : Cond.initialized "java/lang/System" ∈ xTW) (hg : xcb sp dp n n0 n1 = true) (hd1 : 1 ≤ d) (hrm : (st.map (fun v => v.category)).sum ≤ 8) (hd : decode cc pc = .ok (.invokestatic idx, 3)) (kk : X E B d mc ms y cc maxL ret r (pc + 3) lv st u w (n2, K, P, xrow I a1 (va_cpy (I a0) (I a1) (ix sp) (ix dp) (ix n)), L)) : X E B d mc ms y cc maxL ret r pc lv (.int n :: .int dp :: .ref a1 :: .int sp :: .ref a0 :: st) u w (n2, K, P, I, L) := by
  intro p l e s m args below meth c H locs ls F hW hS hl
  have hts := F.2.2.2.2.2.1
  simp only [xcb, Bool.and_eq_true, decide_eq_true_eq] at hg
  obtain ⟨⟨⟨⟨g1, g2⟩, g3⟩, g4⟩, g5⟩ := hg
  obtain ⟨p1, -, hc0⟩ := x_arr hW hk0 (by decide) (by decide)
  obtain ⟨q1, -, hc1⟩ := x_arr hW hk1 (by decide) (by decide)
  have ar := fun (nn : Nat) (z : Nat → Value) => (F.2.2.2.2.2.2.2.2.1.2 _ _ (x_tys (t := 20) (by decide) (by decide))).1 nn z
  have eX : ∀ b, xav B (n2, K, P, I, L) b 20 = fun j => .int (I b j) := fun b => rfl
  rw [eX] at hc0 hc1
  show W p l e _ s m args below meth c H locs u w _ (F0 m pc ls (.int n :: .int dp :: xrf B a1 :: .int sp :: xrf B a0 :: _))
  rw [x_ref p1, x_ref q1]
  intro T hT XS
  obtain ⟨-, k0, hkk0, cm0, hkd0⟩ := ar n0 (fun j => .int (I a0 j))
  obtain ⟨-, k1, hkk1, cm1, hkd1⟩ := ar n1 (fun j => .int (I a1 j))
  obtain ⟨vm', X', step⟩ := XS.arraycopy F.1 F.2.2.2.2.1 (hts _ hl1) (hts _ hl2) (hts _ hl3) (hts _ hl4) (src := B + a0) (dst := B + a1) (cs := arrV (E.2.2.1 20) n0 (fun j => .int (I a0 j))) (cd := arrV (E.2.2.1 20) n1 (fun j => .int (I a1 j))) (srcPos := sp) (destPos := dp) (n := n) (by rw [hT]; exact hc0) (by rw [hT]; exact hc1)
    (fun _ h => by cases h) (fun _ h => by cases h) (fun h => by cases h) (fun h => by cases h) hkk0 hkk1 hkd0 hkd1 (by simp [xaty, refKind]) (x_nn g1).1 (x_nn g2).1 (x_nn g3).1
    (by rw [(x_nn g1).2, (x_nn g3).2, arrV_size]; omega)
    (by rw [(x_nn g2).2, (x_nn g3).2, arrV_size]; omega)
    (fun vm₁ _ i hi => by
      have e : (arrV (E.2.2.1 20) n0 (fun j => .int (I a0 j))).slots.getD (sp.toNatClampNeg + i) .null = .int (I a0 (sp.toNatClampNeg + i)) := by
        rw [Array.getD_eq_getD_getElem?, arrV_read _ _ (by have h4 : sp.toNatClampNeg + n.toNatClampNeg ≤ n0 := g4; omega)]
        rfl
      refine ⟨?_, ?_⟩
      · rw [e]
        rfl
      · rw [e]
        exact trivial)
    (g := F0 m pc ls (.int n :: .int dp :: .ref (B + a1) :: .int sp :: .ref (B + a0) :: st.map (xv E B))) rfl (by rw [F.2.2.2.1]; exact hl.1) (rest := st.map (xv E B)) rfl (by rw [F.2.1]; exact hd) (by show 1 ≤ d; exact hd1) (by
      have q : ((st.map (xv E B)).map (fun v => v.category)).sum ≤ 8 := by rw [x_sum]; exact hrm
      have e7 : nativeFrameWords "java/lang/System" "arraycopy" 5 = 7 := by decide
      show 2 * 0 + ((st.map (xv E B)).map (fun v => v.category)).sum + (nativeFrameWords "java/lang/System" "arraycopy" 5 + 11) ≤ 64 * d
      omega)
  have e1 : copied (arrV (E.2.2.1 20) n0 (fun j => .int (I a0 j))) (arrV (E.2.2.1 20) n1 (fun j => .int (I a1 j))) sp dp n = arrV (E.2.2.1 20) n1 (fun j => .int (va_cpy (I a0) (I a1) (ix sp) (ix dp) (ix n) j)) := va_copied (fun z => .int z) _ _ (I a0) (I a1) g4
  rw [e1] at X' step
  have hlt : B + a1 < H.size := (Array.getElem?_eq_some_iff.mp hc1).1
  generalize hcell : arrV (E.2.2.1 20) n1 (fun j => .int (va_cpy (I a0) (I a1) (ix sp) (ix dp) (ix n) j)) = cell at X' step
  have hheap : ((T.setVm vm').setCell (B + a1) cell).heap = H.setIfInBounds (B + a1) cell := by rw [← hT]; rfl
  have oq : ∀ q : Nat, q ≠ B + a1 → (H.setIfInBounds (B + a1) cell)[q]? = H[q]? := fun q hq => by simp [Array.getElem?_setIfInBounds, Ne.symm hq]
  have zq : (H.setIfInBounds (B + a1) cell).size = H.size := by simp
  have hA1 : xA B (B + a1) := show B < B + a1 by omega
  have hxC : xC E B (n2, K, P, xrow I a1 (va_cpy (I a0) (I a1) (ix sp) (ix dp) (ix n)), L) a1 (H.setIfInBounds (B + a1) cell) := by
    refine xC_arr (t := 20) (n := n1) hk1 (by decide) ?_
    rw [show (H.setIfInBounds (B + a1) cell)[B + a1]? = some cell by simp [Array.getElem?_setIfInBounds, hlt], ← hcell]
    refine congrArg some (congrArg (arrV _ _) (funext fun j => ?_))
    simp [xav, xrow_at]
  obtain ⟨t, b1, b2⟩ := kk p l e s m args below meth c _ _ ls F (xW_upd hW rfl (fun b hb => ⟨rfl, rfl, xrow_ne hb, rfl⟩) rfl zq oq hxC) ⟨by rw [zq]; exact hS.1, fun q g1 g2 => by
      rw [oq q (fun e => g2 (by rw [e]; exact hA1))]
      exact hS.2.1 q g1 g2, fun q hq => by
      rcases List.mem_append.mp hq with h | h
      · exact hS.2.2 q h
      · obtain ⟨z, -, hz⟩ := List.mem_map.mp h
        rw [← hz]
        exact hA1⟩ hl _ hheap X'
  exact ⟨t, step t b1, b2⟩
theorem X_copyL {idx a0 a1 n0 n1 n2 : Nat} {sp dp n : Int32} {K : Nat → Nat × Nat} {P : Nat → Nat → Nat} {I : Nat → Nat → Int32} {L : Nat → Nat → Int64} (hk0 : K a0 = (21, n0)) (hk1 : K a1 = (21, n1)) (hl1 : Cond.methodLink y.cls idx arraycopyName ∈ xTW) (hl2 : Cond.native arraycopyName ∈ xTW) (hl3 : Cond.static arraycopyName ∈ xTW) (hl4 : Cond.initialized "java/lang/System" ∈ xTW) (hg : xcb sp dp n n0 n1 = true) (hd1 : 1 ≤ d) (hrm : (st.map (fun v => v.category)).sum ≤ 8) (hd : decode cc pc = .ok (.invokestatic idx, 3)) (kk : X E B d mc ms y cc maxL ret r (pc + 3) lv st u w (n2, K, P, I, xrow L a1 (va_cpy (L a0) (L a1) (ix sp) (ix dp) (ix n)))) : X E B d mc ms y cc maxL ret r pc lv (.int n :: .int dp :: .ref a1 :: .int sp :: .ref a0 :: st) u w (n2, K, P, I, L) := by
  intro p l e s m args below meth c H locs ls F hW hS hl
  have hts := F.2.2.2.2.2.1
  simp only [xcb, Bool.and_eq_true, decide_eq_true_eq] at hg
  obtain ⟨⟨⟨⟨g1, g2⟩, g3⟩, g4⟩, g5⟩ := hg
  obtain ⟨p1, -, hc0⟩ := x_arr hW hk0 (by decide) (by decide)
  obtain ⟨q1, -, hc1⟩ := x_arr hW hk1 (by decide) (by decide)
  have ar := fun (nn : Nat) (z : Nat → Value) => (F.2.2.2.2.2.2.2.2.1.2 _ _ (x_tys (t := 21) (by decide) (by decide))).1 nn z
  have eX : ∀ b, xav B (n2, K, P, I, L) b 21 = fun j => .long (L b j) := fun b => rfl
  rw [eX] at hc0 hc1
  show W p l e _ s m args below meth c H locs u w _ (F0 m pc ls (.int n :: .int dp :: xrf B a1 :: .int sp :: xrf B a0 :: _))
  rw [x_ref p1, x_ref q1]
  intro T hT XS
  obtain ⟨-, k0, hkk0, cm0, hkd0⟩ := ar n0 (fun j => .long (L a0 j))
  obtain ⟨-, k1, hkk1, cm1, hkd1⟩ := ar n1 (fun j => .long (L a1 j))
  obtain ⟨vm', X', step⟩ := XS.arraycopy F.1 F.2.2.2.2.1 (hts _ hl1) (hts _ hl2) (hts _ hl3) (hts _ hl4) (src := B + a0) (dst := B + a1) (cs := arrV (E.2.2.1 21) n0 (fun j => .long (L a0 j))) (cd := arrV (E.2.2.1 21) n1 (fun j => .long (L a1 j))) (srcPos := sp) (destPos := dp) (n := n) (by rw [hT]; exact hc0) (by rw [hT]; exact hc1)
    (fun _ h => by cases h) (fun _ h => by cases h) (fun h => by cases h) (fun h => by cases h) hkk0 hkk1 hkd0 hkd1 (by simp [xaty, refKind]) (x_nn g1).1 (x_nn g2).1 (x_nn g3).1
    (by rw [(x_nn g1).2, (x_nn g3).2, arrV_size]; omega)
    (by rw [(x_nn g2).2, (x_nn g3).2, arrV_size]; omega)
    (fun vm₁ _ i hi => by
      have e : (arrV (E.2.2.1 21) n0 (fun j => .long (L a0 j))).slots.getD (sp.toNatClampNeg + i) .null = .long (L a0 (sp.toNatClampNeg + i)) := by
        rw [Array.getD_eq_getD_getElem?, arrV_read _ _ (by have h4 : sp.toNatClampNeg + n.toNatClampNeg ≤ n0 := g4; omega)]
        rfl
      refine ⟨?_, ?_⟩
      · rw [e]
        rfl
      · rw [e]
        exact trivial)
    (g := F0 m pc ls (.int n :: .int dp :: .ref (B + a1) :: .int sp :: .ref (B + a0) :: st.map (xv E B))) rfl (by rw [F.2.2.2.1]; exact hl.1) (rest := st.map (xv E B)) rfl (by rw [F.2.1]; exact hd) (by show 1 ≤ d; exact hd1) (by
      have q : ((st.map (xv E B)).map (fun v => v.category)).sum ≤ 8 := by rw [x_sum]; exact hrm
      have e7 : nativeFrameWords "java/lang/System" "arraycopy" 5 = 7 := by decide
      show 2 * 0 + ((st.map (xv E B)).map (fun v => v.category)).sum + (nativeFrameWords "java/lang/System" "arraycopy" 5 + 11) ≤ 64 * d
      omega)
  have e1 : copied (arrV (E.2.2.1 21) n0 (fun j => .long (L a0 j))) (arrV (E.2.2.1 21) n1 (fun j => .long (L a1 j))) sp dp n = arrV (E.2.2.1 21) n1 (fun j => .long (va_cpy (L a0) (L a1) (ix sp) (ix dp) (ix n) j)) := va_copied (fun z => .long z) _ _ (L a0) (L a1) g4
  rw [e1] at X' step
  have hlt : B + a1 < H.size := (Array.getElem?_eq_some_iff.mp hc1).1
  generalize hcell : arrV (E.2.2.1 21) n1 (fun j => .long (va_cpy (L a0) (L a1) (ix sp) (ix dp) (ix n) j)) = cell at X' step
  have hheap : ((T.setVm vm').setCell (B + a1) cell).heap = H.setIfInBounds (B + a1) cell := by rw [← hT]; rfl
  have oq : ∀ q : Nat, q ≠ B + a1 → (H.setIfInBounds (B + a1) cell)[q]? = H[q]? := fun q hq => by simp [Array.getElem?_setIfInBounds, Ne.symm hq]
  have zq : (H.setIfInBounds (B + a1) cell).size = H.size := by simp
  have hA1 : xA B (B + a1) := show B < B + a1 by omega
  have hxC : xC E B (n2, K, P, I, xrow L a1 (va_cpy (L a0) (L a1) (ix sp) (ix dp) (ix n))) a1 (H.setIfInBounds (B + a1) cell) := by
    refine xC_arr (t := 21) (n := n1) hk1 (by decide) ?_
    rw [show (H.setIfInBounds (B + a1) cell)[B + a1]? = some cell by simp [Array.getElem?_setIfInBounds, hlt], ← hcell]
    refine congrArg some (congrArg (arrV _ _) (funext fun j => ?_))
    simp [xav, xrow_at]
  obtain ⟨t, b1, b2⟩ := kk p l e s m args below meth c _ _ ls F (xW_upd hW rfl (fun b hb => ⟨rfl, rfl, rfl, xrow_ne hb⟩) rfl zq oq hxC) ⟨by rw [zq]; exact hS.1, fun q g1 g2 => by
      rw [oq q (fun e => g2 (by rw [e]; exact hA1))]
      exact hS.2.1 q g1 g2, fun q hq => by
      rcases List.mem_append.mp hq with h | h
      · exact hS.2.2 q h
      · obtain ⟨z, -, hz⟩ := List.mem_map.mp h
        rw [← hz]
        exact hA1⟩ hl _ hheap X'
  exact ⟨t, step t b1, b2⟩
end XCP

/-! New objects and arrays; arraycopy. -/
def xz {α : Type} (f : Nat → Nat → α) (a : Nat) (z : α) : Nat → Nat → α := fun b j => if b = a then z else f b j
theorem xz_ne {α : Type} {f : Nat → Nat → α} {a b : Nat} {z : α} (h : b ≠ a) : xz f a z b = f b := by
  funext j
  simp [xz, h]
theorem xz_at {α : Type} {f : Nat → Nat → α} {a j : Nat} {z : α} : xz f a z a j = z := by simp [xz]
def xk (K : Nat → Nat × Nat) (a : Nat) (t : Nat × Nat) : Nat → Nat × Nat := fun b => if b = a then t else K b
theorem xk_ne {K : Nat → Nat × Nat} {a b : Nat} {t : Nat × Nat} (h : b ≠ a) : xk K a t b = K b := if_neg h
theorem xk_at {K : Nat → Nat × Nat} {a : Nat} {t : Nat × Nat} : xk K a t a = t := if_pos rfl
/-- the memory with one more cell, all zero -/
def xnew (h : xH) (t : Nat × Nat) : xH := (h.1 + 1, xk h.2.1 (h.1 + 1) t, xz h.2.2.1 (h.1 + 1) 0, xz h.2.2.2.1 (h.1 + 1) 0, xz h.2.2.2.2 (h.1 + 1) 0)
theorem xW_new {E : xE} {B : Nat} {h : xH} {H H' : Heap} {t : Nat × Nat} (hW : xW E B h H) (z : H'.size = H.size + 1) (o : ∀ q, q < H.size → H'[q]? = H[q]?) (c : xC E B (xnew h t) (h.1 + 1) H') : xW E B (xnew h t) H' := by
  refine ⟨?_, fun b hb => ?_⟩
  · show H'.size = B + (h.1 + 1) + 1
    rw [z, hW.1]; omega
  · by_cases e : b = h.1 + 1
    · subst e
      exact ⟨by omega, Nat.le_refl _, c⟩
    · have hb2 : (h.2.1 b).1 < 30 := by
        have : (xnew h t).2.1 b = h.2.1 b := xk_ne e
        rw [this] at hb; exact hb
      obtain ⟨p1, p2, p3⟩ := hW.2 b hb2
      refine ⟨p1, Nat.le_succ_of_le p2, xC_congr ⟨xk_ne e, xz_ne e, xz_ne e, xz_ne e⟩ (o _ ?_) p3⟩
      rw [hW.1]; omega
def xdv (ty : FieldType) : Value := match xkd ty with
  | 1 => .long 0
  | 2 => .null
  | _ => .int 0
def xNL (own : String) (idx ci : Nat) : Prop := xCF ci ∧ Cond.classLink own idx (xRN ci) ∈ xTW ∧ Cond.instantiable (xRN ci) (xN ci) ∈ xTW ∧ Cond.initialized (xRN ci) ∈ xTW ∧ ∀ k, k < xN ci → defaultValue (xty ci k) = xdv (xty ci k)
theorem xS_new {B : Nat} {H0 H H' : Heap} {locs : List Loc} (hS : va_S (xA B) H0 H locs) (z : H.size ≤ H'.size) (o : ∀ q, q < H.size → H'[q]? = H[q]?) : va_S (xA B) H0 H' locs :=
  ⟨Nat.le_trans hS.1 z, fun q h1 h2 => (o q (Nat.lt_of_lt_of_le h1 hS.1)).trans (hS.2.1 q h1 h2), hS.2.2⟩
section XNW
variable {E : xE} {B d mc ms : Nat} {y : MethodName} {cc : ByteArray} {maxL : Nat} {ret : Option FieldType} {r : Option Value × xH} {pc : Nat} {lv lv' : List (Nat × Value)} {st : List Value} {u w : Nat} {h : xH}
theorem X_new {idx ci : Nat} (hl1 : xNL y.cls idx ci) (hu : u + 1 ≤ mc ∧ w + xN ci ≤ ms) (hd : decode cc pc = .ok (.new idx, 3)) (kk : X E B d mc ms y cc maxL ret r (pc + 3) lv (.ref (h.1 + 1) :: st) (u + 1) (w + xN ci) (xnew h (ci, 0))) : X E B d mc ms y cc maxL ret r pc lv st u w h := by
  intro p l e s m args below meth c H locs ls F hW hS hl
  obtain ⟨⟨hc12, hcl, hin, hty, hnm⟩, n1, n2, n3, n4⟩ := hl1
  have hts := F.2.2.2.2.2.1
  have hKn := F.2.2.2.2.2.2.2.2.1.1 ci _ hcl
  obtain ⟨hSl, hfc, kC0, hkC0, hkind⟩ := id hKn
  refine W.newcK F.1 F.2.1 F.2.2.2.2.1 (hts _ n1) (hts _ n2) (hts _ n3) rfl hd hu.1 hu.2 hfc hW.1 (fun H' kC hkC e1 z1 o1 => ?_)
  rw [← hW.1] at o1
  have K := kk p l e s m args below meth c H' locs ls F (xW_new hW (by rw [z1, hW.1]) o1 ?_) (xS_new hS (by rw [z1, hW.1]; omega) o1) hl
  · rw [List.map_cons] at K
    have ea : xv E B (.ref (h.1 + 1)) = .ref (B + h.1 + 1) := by
      rw [show B + h.1 + 1 = B + (h.1 + 1) by omega]
      exact xrf_p B (by omega)
    rw [ea] at K
    exact K
  · unfold xC
    have ek : (xnew h (ci, 0)).2.1 (h.1 + 1) = (ci, 0) := xk_at
    rw [ek, if_pos (show ci < 20 by omega)]
    refine ⟨hc12, ?_⟩
    have hbn := u_born (H := H') (o := B + h.1 + 1) (xty ci) hts hin hKn hkC e1 hty
    refine t_OB.to hbn (fun k hk => ?_)
    show defaultValue (xty ci k) = xfv B (xnew h (ci, 0)) (h.1 + 1) (xty ci k) k
    rw [n4 k hk]
    have z1 : (xnew h (ci, 0)).2.2.1 (h.1 + 1) k = 0 := xz_at
    have z2 : (xnew h (ci, 0)).2.2.2.1 (h.1 + 1) k = 0 := xz_at
    have z3 : (xnew h (ci, 0)).2.2.2.2 (h.1 + 1) k = 0 := xz_at
    generalize xty ci k = ty
    cases ty <;> simp [xdv, xkd, xfv, z1, z2, z3, xrf]
theorem X_newa {t : Nat} {at' : ArrayType} {i : Int32} (ht : newarray.typeOf at' = xaty t) (h1 : ¬ t < 20) (h2 : t < 24) (hac : Cond.arrayClass (xaty t) ∈ xTW) (hi : ¬ i < 0) (hb : ix i * componentBytes (xaty t) ≤ 536870912) (hu : u + 1 ≤ mc ∧ w + ix i ≤ ms) (hd : decode cc pc = .ok (.newarray at', 2)) (kk : X E B d mc ms y cc maxL ret r (pc + 2) lv (.ref (h.1 + 1) :: st) (u + 1) (w + ix i) (xnew h (t, ix i))) : X E B d mc ms y cc maxL ret r pc lv (.int i :: st) u w h := by
  intro p l e s m args below meth c H locs ls F hW hS hl
  have hts := F.2.2.2.2.2.1
  have hRA := (F.2.2.2.2.2.2.2.2.1.2 _ _ (x_tys (t := t) h1 (by omega))).2
  refine va_newaK F.1 F.2.1 (atype := at') (by rw [ht]; exact hts _ hac) (N := ix i) rfl hd rfl hi rfl (by rw [ht]; exact hb) hu.1 hu.2 hW.1 (fun H' cA e1 z1 o1 hAr hNm => ?_)
  rw [← hW.1] at o1
  have ecA : cA = E.2.2.1 t := by
    rw [ht] at hNm
    have q : s.vm.findClass ("[" ++ (xaty t).toString) = some (E.2.2.1 t) := by
      revert hRA
      have : t = 20 ∨ t = 21 ∨ t = 22 ∨ t = 23 := by omega
      rcases this with rfl | rfl | rfl | rfl <;> exact fun q => q
    exact Option.some.inj (hNm.symm.trans q)
  have K := kk p l e s m args below meth c H' locs ls F (xW_new hW (by rw [z1, hW.1]) o1 ?_) (xS_new hS (by rw [z1, hW.1]; omega) o1) hl
  · rw [List.map_cons] at K
    have ea : xv E B (.ref (h.1 + 1)) = .ref (B + h.1 + 1) := by
      rw [show B + h.1 + 1 = B + (h.1 + 1) by omega]
      exact xrf_p B (by omega)
    rw [ea] at K
    exact K
  · refine xC_arr (t := t) (n := ix i) xk_at h1 ?_
    rw [show B + (h.1 + 1) = B + h.1 + 1 by omega, e1, ecA, ht]
    refine congrArg some (congrArg (arrV _ _) (funext fun j => ?_))
    have z2 : (xnew h (t, ix i)).2.2.2.1 (h.1 + 1) j = 0 := xz_at
    have z3 : (xnew h (t, ix i)).2.2.2.2 (h.1 + 1) j = 0 := xz_at
    have : t = 20 ∨ t = 21 ∨ t = 22 ∨ t = 23 := by omega
    rcases this with rfl | rfl | rfl | rfl <;> simp [xav, xaty, z2, z3, defaultValue]
theorem X_anew {idx t ci : Nat} {i : Int32} (h1 : 24 ≤ t) (h2 : t < 27) (hcl : Cond.classLink y.cls idx (xRN ci) ∈ xTW) (hty : xaty t = .object (xRN ci)) (hao : ∀ U, xEv E B U → va_AO (xRN ci) U) (hi : ¬ i < 0) (hb : ix i * 4 ≤ 536870912) (hu : u + 1 ≤ mc ∧ w + ix i ≤ ms) (hd : decode cc pc = .ok (.anewarray idx, 3)) (kk : X E B d mc ms y cc maxL ret r (pc + 3) lv (.ref (h.1 + 1) :: st) (u + 1) (w + ix i) (xnew h (t, ix i))) : X E B d mc ms y cc maxL ret r pc lv (.int i :: st) u w h := by
  intro p l e s m args below meth c H locs ls F hW hS hl
  have hts := F.2.2.2.2.2.1
  have hRA := (F.2.2.2.2.2.2.2.2.1.2 _ _ (x_tys (t := t) (by omega) (by omega))).2
  rw [hty] at hRA
  obtain ⟨kA0, comp0, g1, g2, g3, g4⟩ := hRA
  refine W.anew F.1 F.2.1 F.2.2.2.2.1 (hts _ hcl) (va_AO.use (hao s F.2.2.2.2.2.2.2.2)) rfl hd rfl hi hb hu.1 hu.2 (fun cA kA comp e0 e1 e2 e3 => ?_)
  have ecA : cA = E.2.2.1 t := Option.some.inj (e0.symm.trans g4)
  have hsz : H.size = B + h.1 + 1 := hW.1
  have o1 : ∀ q, q < H.size → (H.push { cls := cA, slots := Array.replicate i.toNatClampNeg Value.null, vm := .none } : Heap)[q]? = H[q]? := fun q hq => by
    rw [Array.getElem?_push, if_neg (Nat.ne_of_lt hq)]
  have z1 : (H.push { cls := cA, slots := Array.replicate i.toNatClampNeg Value.null, vm := .none } : Heap).size = H.size + 1 := by simp
  have K := kk p l e s m args below meth c _ locs ls F (xW_new hW z1 o1 ?_) (xS_new hS (by rw [z1]; omega) o1) hl
  · rw [List.map_cons] at K
    have ea : xv E B (.ref (h.1 + 1)) = .ref H.size := by
      rw [hsz, show B + h.1 + 1 = B + (h.1 + 1) by omega]
      exact xrf_p B (by omega)
    rw [ea] at K
    exact K
  · refine xC_arr (t := t) (n := ix i) xk_at (by omega) ?_
    rw [show B + (h.1 + 1) = H.size by omega, Array.getElem?_push, if_pos rfl, arrV_new, ecA]
    refine congrArg some (congrArg (arrV _ _) (funext fun j => ?_))
    have z2 : (xnew h (t, ix i)).2.2.1 (h.1 + 1) j = 0 := xz_at
    have t1 : ¬ t = 21 := by omega
    simp [xav, z2, t1, h1, xrf]
end XNW

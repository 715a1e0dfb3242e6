/-! Rows of instructions that read and write the memory. -/
def xCF (ci : Nat) : Prop := ci < 12 ∧ vwCl[ci]? = some (xRN ci, xT ci, xN ci) ∧ (∀ w ∈ u_ws (xRN ci) (xT ci) (xN ci), w ∈ xTW) ∧ (∀ k, k < xN ci → parseFieldDescriptor (xT ci k).2.2.1 = some (xty ci k)) ∧ (∀ a, a < xN ci → ∀ b, b < xN ci → a ≠ b → (xT ci a).2.1 ≠ (xT ci b).2.1)
def xFL (own : String) (idx ci k : Nat) : Prop := xCF ci ∧ k < xN ci ∧ Cond.fieldLink own idx (xT ci k).1 (xT ci k).2.1 (xT ci k).2.2.1 ∈ xTW
theorem x_obj {E : xE} {B : Nat} {h : xH} {H : Heap} {a ci z : Nat} (hW : xW E B h H) (hk : h.2.1 a = (ci, z)) (hc : ci < 12) : 1 ≤ a ∧ a ≤ h.1 ∧ t_OB (B + a) (E.1 ci) (xN ci) (E.2.1 ci) H (fun k => xfv B h a (xty ci k) k) := by
  obtain ⟨p1, p2, p3⟩ := hW.2 a (by rw [hk]; show ci < 30; omega)
  unfold xC at p3
  rw [hk, if_pos (show ci < 20 by omega)] at p3
  exact ⟨p1, p2, p3.2⟩
theorem x_arr {E : xE} {B : Nat} {h : xH} {H : Heap} {a t n : Nat} (hW : xW E B h H) (hk : h.2.1 a = (t, n)) (h1 : ¬ t < 20) (h2 : t < 30) : 1 ≤ a ∧ a ≤ h.1 ∧ H[B + a]? = some (arrV (E.2.2.1 t) n (xav B h a t)) := by
  obtain ⟨p1, p2, p3⟩ := hW.2 a (by rw [hk]; exact h2)
  unfold xC at p3
  rw [hk, if_neg h1] at p3
  exact ⟨p1, p2, p3⟩
theorem x_ref {a B : Nat} (h : 1 ≤ a) : xrf B a = .ref (B + a) := if_neg (by omega)
theorem x_tys {E : xE} {t : Nat} (h1 : ¬ t < 20) (h2 : t < 29) : (xtys E)[t - 20]? = some (E.2.2.1 t, xaty t) := by
  unfold xtys
  rw [List.getElem?_map, List.getElem?_range (by omega)]
  simp only [Option.map_some]
  rw [show 20 + (t - 20) = t by omega]
section XH
variable {E : xE} {B d mc ms : Nat} {y : MethodName} {cc : ByteArray} {maxL : Nat} {ret : Option FieldType} {r : Option Value × xH} {pc : Nat} {lv lv' : List (Nat × Value)} {st : List Value} {u w : Nat} {h : xH}
theorem X_getG {idx ci k z a : Nat} {v : Value} (hf : xFL y.cls idx ci k) (hk : h.2.1 a = (ci, z)) (hd : decode cc pc = .ok (.getfield idx, 3)) (hv : xfv B h a (xty ci k) k = xv E B v) (kk : X E B d mc ms y cc maxL ret r (pc + 3) lv (v :: st) u w h) : X E B d mc ms y cc maxL ret r pc lv (.ref a :: st) u w h := by
  intro p l e s m args below meth c H locs ls F hW hS hl
  have K := kk p l e s m args below meth c H locs ls F hW hS hl
  obtain ⟨⟨hc12, hc, hin, -, -⟩, hkN, hlk⟩ := hf
  obtain ⟨p1, p2, cell, q1, q2, q3, q4⟩ := x_obj hW hk hc12
  obtain ⟨hx, hb, -, -, hown, hts, -, -, hEv⟩ := F
  obtain ⟨hSl, hfc, kC, hkC, hkind⟩ := hEv.1.1 ci _ hc
  obtain ⟨cf, kf, fi, f, hi, hsl⟩ := hSl k hkN
  rw [List.map_cons] at K ⊢
  show W p l e _ s m args below meth c H locs u w _ (F0 m pc ls (xrf B a :: _))
  rw [x_ref p1]
  refine W.getf hx hb hown (hts _ hlk) hi (u_facts hfc hkC (u_lays hts hin hkN) hi).1 q1 (by rw [q3]; exact fun h => by cases h) (v := xv E B v) ?_ rfl rfl hd K
  rw [hsl, q4 k hkN]
  exact congrArg some hv
theorem X_getI {idx ci k z a : Nat} (hf : xFL y.cls idx ci k) (hk : h.2.1 a = (ci, z)) (ht : xkd (xty ci k) = 0) (hd : decode cc pc = .ok (.getfield idx, 3)) (kk : X E B d mc ms y cc maxL ret r (pc + 3) lv (.int (h.2.2.2.1 a k) :: st) u w h) : X E B d mc ms y cc maxL ret r pc lv (.ref a :: st) u w h := X_getG hf hk hd (xfv_I ht) kk
theorem X_getL {idx ci k z a : Nat} (hf : xFL y.cls idx ci k) (hk : h.2.1 a = (ci, z)) (ht : xkd (xty ci k) = 1) (hd : decode cc pc = .ok (.getfield idx, 3)) (kk : X E B d mc ms y cc maxL ret r (pc + 3) lv (.long (h.2.2.2.2 a k) :: st) u w h) : X E B d mc ms y cc maxL ret r pc lv (.ref a :: st) u w h := X_getG hf hk hd (xfv_L ht) kk
theorem X_getP {idx ci k z a : Nat} (hf : xFL y.cls idx ci k) (hk : h.2.1 a = (ci, z)) (ht : xkd (xty ci k) = 2) (hd : decode cc pc = .ok (.getfield idx, 3)) (kk : X E B d mc ms y cc maxL ret r (pc + 3) lv (.ref (h.2.2.1 a k) :: st) u w h) : X E B d mc ms y cc maxL ret r pc lv (.ref a :: st) u w h := X_getG hf hk hd (xfv_P ht) kk
/-- a store into a field, the new memory h2 -/
theorem X_putG {idx ci k z a : Nat} {v : Value} {h2 : xH} (fin : Bool) (hf : xFL y.cls idx ci k) (hk : h.2.1 a = (ci, z)) (hd : decode cc pc = .ok (.putfield idx, 3)) (hfin : (xT ci k).2.2.2 = fin) (hF : fin = true → y.name = "<init>" ∧ (xT ci k).1 = y.cls) (hn : narrow (xty ci k) (xv E B v) = xv E B v) (hfit : fits (xty ci k) (xv E B v) = true)
    (h1 : h2.1 = h.1) (ho : ∀ b, b ≠ a → xag h h2 b) (ha : h2.2.1 a = h.2.1 a) (hv : ∀ j, j < xN ci → updV (fun k => xfv B h a (xty ci k) k) k (xv E B v) j = xfv B h2 a (xty ci j) j)
    (kk : X E B d mc ms y cc maxL ret r (pc + 3) lv st u w h2) : X E B d mc ms y cc maxL ret r pc lv (v :: .ref a :: st) u w h := by
  intro p l e s m args below meth c H locs ls F hW hS hl
  have F0' := F
  obtain ⟨⟨hc12, hc, hin, hty, hnm⟩, hkN, hlk⟩ := hf
  obtain ⟨p1, p2, cell, q1, q2, q3, q4⟩ := x_obj hW hk hc12
  obtain ⟨hx, hb, -, -, hown, hts, -, hnme, hEv⟩ := F
  have hap := va_apart (own := y.cls) (D := (E.1, E.2.1)) hts hin (xty ci) hty hnm hEv.1 hc
  obtain ⟨hSl, hfc, kC, hkC, hkind⟩ := hEv.1.1 ci _ hc
  obtain ⟨cf, kf, fi, f, hi, hsl⟩ := hSl k hkN
  have hlay := hts _ (hin _ (u_in_lay hkN))
  have hst := (u_facts hfc hkC (u_lays hts hin hkN) hi).1
  have goOn : ∀ H' : Heap, H'[B + a]? = some (cell.setSlot f.slot (xv E B v)) → H'.size = H.size → (∀ q, q ≠ B + a → H'[q]? = H[q]?) → W p l e (xR d mc ms) s m args below meth c H' (locs ++ [⟨B + a, f.slot⟩]) u w (MQ below (xQ E B r) args s mc ms (xA B)) (F0 m (pc + 3) ls (st.map (xv E B))) := by
    intro H' e1 e2 e3
    rw [hsl] at e1
    refine kk p l e s m args below meth c H' _ ls F0' (xW_upd hW h1 ho ha e2 e3 ?_) (hS.put e2 e3 (show B < B + a by omega)) hl
    unfold xC
    rw [ha, hk, if_pos (show ci < 20 by omega)]
    exact ⟨hc12, t_OB.to ⟨_, e1, q2, q3, t_set q4 hap hkN _⟩ hv⟩
  rw [List.map_cons, List.map_cons]
  show W p l e _ s m args below meth c H locs u w _ (F0 m pc ls (xv E B v :: xrf B a :: _))
  rw [x_ref p1]
  unfold u_lay at hlay
  cases fin with
  | false =>
    rw [if_neg (by rw [hfin]; decide)] at hlay
    have h6 := u_store hfc hkC hkind hlay hi (hty k hkN) hn hfit
    exact W.putK hx hb (f := f) ⟨hown, hts _ hlk, ⟨_, _, _, hi⟩, hst⟩ (by rw [q2]; exact h6) q1 q3 (by rw [hsl]; exact k2_hasslot (q4 k hkN)) rfl rfl hd goOn
  | true =>
    rw [if_pos hfin] at hlay
    obtain ⟨hin2, hdecl⟩ := hF rfl
    have hcf : m.cls = cf := by
      obtain ⟨_, _, c', _, _, _, -, -, hf', -, -, -, hown2, -⟩ := Cond.laysFinal_spec hlay
      have e1 : c' = cf := by have := hi.symm.trans hf'; simp at this; exact this.1.symm
      rw [hdecl] at hown2
      rw [← e1]; exact Option.some.inj (hown.symm.trans hown2)
    have h6 := u_fits hfc hkC hkind (Or.inr hlay) hi (hty k hkN) hn hfit
    exact W.putFinK hx hb hown (hts _ hlk) hi hst hcf (hnme.trans hin2) (by rw [q2]; exact h6) q1 q3 (by rw [hsl]; exact k2_hasslot (q4 k hkN)) rfl rfl hd goOn
theorem X_putI {idx ci k z a n : Nat} {K : Nat → Nat × Nat} {P : Nat → Nat → Nat} {I : Nat → Nat → Int32} {L : Nat → Nat → Int64} {v : Int32} (hf : xFL y.cls idx ci k) (hk : K a = (ci, z)) (ht : xty ci k = .int) (hfin : (xT ci k).2.2.2 = false) (hd : decode cc pc = .ok (.putfield idx, 3))
    (kk : X E B d mc ms y cc maxL ret r (pc + 3) lv st u w (n, K, P, xu I a k v, L)) : X E B d mc ms y cc maxL ret r pc lv (.int v :: .ref a :: st) u w (n, K, P, I, L) := by
  refine X_putG (h2 := (n, K, P, xu I a k v, L)) false hf hk hd hfin (fun h => by cases h) (by rw [ht]; rfl) (by rw [ht]; rfl) rfl (fun b hb => ⟨rfl, rfl, xu_ne hb, rfl⟩) rfl (fun j _ => ?_) kk
  by_cases e : j = k
  · subst e
    simp [updV, ht, xfv, xu, xv]
  · simp only [updV, if_neg e, xfv, xu_at, e, if_false]
theorem X_putZ {idx ci k z a n : Nat} {K : Nat → Nat × Nat} {P : Nat → Nat → Nat} {I : Nat → Nat → Int32} {L : Nat → Nat → Int64} {v : Int32} (hf : xFL y.cls idx ci k) (hk : K a = (ci, z)) (ht : xty ci k = .boolean) (hz : v = 0 ∨ v = 1) (hfin : (xT ci k).2.2.2 = false) (hd : decode cc pc = .ok (.putfield idx, 3))
    (kk : X E B d mc ms y cc maxL ret r (pc + 3) lv st u w (n, K, P, xu I a k v, L)) : X E B d mc ms y cc maxL ret r pc lv (.int v :: .ref a :: st) u w (n, K, P, I, L) := by
  refine X_putG (h2 := (n, K, P, xu I a k v, L)) false hf hk hd hfin (fun h => by cases h) (by rw [ht]; rcases hz with e | e <;> subst e <;> rfl) (by rw [ht]; rcases hz with e | e <;> subst e <;> rfl) rfl (fun b hb => ⟨rfl, rfl, xu_ne hb, rfl⟩) rfl (fun j _ => ?_) kk
  by_cases e : j = k
  · subst e
    simp [updV, ht, xfv, xu, xv]
  · simp only [updV, if_neg e, xfv, xu_at, e, if_false]
theorem X_putL {idx ci k z a n : Nat} {K : Nat → Nat × Nat} {P : Nat → Nat → Nat} {I : Nat → Nat → Int32} {L : Nat → Nat → Int64} {v : Int64} (hf : xFL y.cls idx ci k) (hk : K a = (ci, z)) (ht : xty ci k = .long) (hfin : (xT ci k).2.2.2 = false) (hd : decode cc pc = .ok (.putfield idx, 3))
    (kk : X E B d mc ms y cc maxL ret r (pc + 3) lv st u w (n, K, P, I, xu L a k v)) : X E B d mc ms y cc maxL ret r pc lv (.long v :: .ref a :: st) u w (n, K, P, I, L) := by
  refine X_putG (h2 := (n, K, P, I, xu L a k v)) false hf hk hd hfin (fun h => by cases h) (by rw [ht]; rfl) (by rw [ht]; rfl) rfl (fun b hb => ⟨rfl, rfl, rfl, xu_ne hb⟩) rfl (fun j _ => ?_) kk
  by_cases e : j = k
  · subst e
    simp [updV, ht, xfv, xu, xv]
  · simp only [updV, if_neg e, xfv, xu_at, e, if_false]
theorem x_fitR {ty : FieldType} (h : xkd ty = 2) {v : Value} (hv : v = .null ∨ ∃ q, v = .ref q) : narrow ty v = v ∧ fits ty v = true := by
  cases ty <;> first | (simp [xkd] at h; done) | (rcases hv with e | ⟨q, e⟩ <;> subst e <;> exact ⟨rfl, rfl⟩)
theorem X_putP {idx ci k z a n : Nat} (fin : Bool) {K : Nat → Nat × Nat} {P : Nat → Nat → Nat} {I : Nat → Nat → Int32} {L : Nat → Nat → Int64} {v : Nat} (hf : xFL y.cls idx ci k) (hk : K a = (ci, z)) (ht : xkd (xty ci k) = 2) (hfin : (xT ci k).2.2.2 = fin) (hF : fin = true → y.name = "<init>" ∧ (xT ci k).1 = y.cls) (hd : decode cc pc = .ok (.putfield idx, 3))
    (kk : X E B d mc ms y cc maxL ret r (pc + 3) lv st u w (n, K, xu P a k v, I, L)) : X E B d mc ms y cc maxL ret r pc lv (.ref v :: .ref a :: st) u w (n, K, P, I, L) := by
  refine X_putG (h2 := (n, K, xu P a k v, I, L)) fin hf hk hd hfin hF (x_fitR ht (xrf_or B v)).1 (x_fitR ht (xrf_or B v)).2 rfl (fun b hb => ⟨rfl, xu_ne hb, rfl, rfl⟩) rfl (fun j _ => ?_) kk
  by_cases e : j = k
  · subst e
    simp only [updV, if_true]
    show xrf B v = xfv B (n, K, xu P a j v, I, L) a (xty ci j) j
    rw [xfv_P ht]
    simp [xu]
  · simp only [updV, if_neg e, xfv, xu_at, e, if_false]
end XH

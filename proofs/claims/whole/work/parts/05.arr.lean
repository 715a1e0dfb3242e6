/-! Rows of arrays. -/
def inb (i : Int32) (n : Nat) : Bool := decide (0 ≤ i.toInt) && decide (i.toInt < n)
abbrev ix (i : Int32) : Nat := i.toNatClampNeg
theorem inb_in {i : Int32} {n : Nat} (h : inb i n = true) : vp_in i n := by
  simp only [inb, Bool.and_eq_true, decide_eq_true_eq] at h
  exact vp_in_iff.mpr h
theorem inb_lt {i : Int32} {n : Nat} (h : inb i n = true) : ix i < n := Nat.not_le.mp fun q => inb_in h (Or.inr q)
theorem xC_arr {E : xE} {B : Nat} {h : xH} {H : Heap} {a t n : Nat} (hk : h.2.1 a = (t, n)) (h1 : ¬ t < 20) (e : H[B + a]? = some (arrV (E.2.2.1 t) n (xav B h a t))) : xC E B h a H := by
  unfold xC
  rw [hk, if_neg h1]
  exact e
section XA
variable {E : xE} {B d mc ms : Nat} {y : MethodName} {cc : ByteArray} {maxL : Nat} {ret : Option FieldType} {r : Option Value × xH} {pc : Nat} {lv lv' : List (Nat × Value)} {st : List Value} {u w : Nat} {h : xH}
theorem X_iald {a n : Nat} {i : Int32} (hk : h.2.1 a = (20, n)) (hin : inb i n = true) (hd : decode cc pc = .ok (.iaload, 1)) (kk : X E B d mc ms y cc maxL ret r (pc + 1) lv (.int (h.2.2.2.1 a (ix i)) :: st) u w h) : X E B d mc ms y cc maxL ret r pc lv (.int i :: .ref a :: st) u w h := by
  intro p l e s m args below meth c H locs ls F hW hS hl
  have K := kk p l e s m args below meth c H locs ls F hW hS hl
  obtain ⟨p1, p2, q1⟩ := x_arr hW hk (by decide) (by decide)
  obtain ⟨hx, hb, -, -, -, -, -, -, hEv⟩ := F
  show W p l e _ s m args below meth c H locs u w _ (F0 m pc ls (.int i :: xrf B a :: _))
  rw [x_ref p1]
  exact W.iald (v := .int (h.2.2.2.1 a (ix i))) hx hb q1 ((hEv.1.2 _ _ (x_tys (t := 20) (by decide) (by decide))).1 n _) (fun q => by cases q) (by rw [arrV_size]; exact inb_in hin) (by rw [arrV_read _ _ (inb_lt hin)]; rfl) rfl rfl hd K
theorem X_lald {a n : Nat} {i : Int32} (hk : h.2.1 a = (21, n)) (hin : inb i n = true) (hd : decode cc pc = .ok (.laload, 1)) (kk : X E B d mc ms y cc maxL ret r (pc + 1) lv (.long (h.2.2.2.2 a (ix i)) :: st) u w h) : X E B d mc ms y cc maxL ret r pc lv (.int i :: .ref a :: st) u w h := by
  intro p l e s m args below meth c H locs ls F hW hS hl
  have K := kk p l e s m args below meth c H locs ls F hW hS hl
  obtain ⟨p1, p2, q1⟩ := x_arr hW hk (by decide) (by decide)
  obtain ⟨hx, hb, -, -, -, -, -, -, hEv⟩ := F
  show W p l e _ s m args below meth c H locs u w _ (F0 m pc ls (.int i :: xrf B a :: _))
  rw [x_ref p1]
  exact W.lald (v := .long (h.2.2.2.2 a (ix i))) hx hb q1 ((hEv.1.2 _ _ (x_tys (t := 21) (by decide) (by decide))).1 n _) (fun q => by cases q) (by rw [arrV_size]; exact inb_in hin) (by rw [arrV_read _ _ (inb_lt hin)]; rfl) rfl rfl hd K
theorem X_bald {a n : Nat} {i : Int32} (hk : h.2.1 a = (22, n)) (hin : inb i n = true) (hd : decode cc pc = .ok (.baload, 1)) (kk : X E B d mc ms y cc maxL ret r (pc + 1) lv (.int (h.2.2.2.1 a (ix i)) :: st) u w h) : X E B d mc ms y cc maxL ret r pc lv (.int i :: .ref a :: st) u w h := by
  intro p l e s m args below meth c H locs ls F hW hS hl
  have K := kk p l e s m args below meth c H locs ls F hW hS hl
  obtain ⟨p1, p2, q1⟩ := x_arr hW hk (by decide) (by decide)
  obtain ⟨hx, hb, -, -, -, -, -, -, hEv⟩ := F
  show W p l e _ s m args below meth c H locs u w _ (F0 m pc ls (.int i :: xrf B a :: _))
  rw [x_ref p1]
  exact W.bald (v := .int (h.2.2.2.1 a (ix i))) hx hb q1 ((hEv.1.2 _ _ (x_tys (t := 22) (by decide) (by decide))).1 n _) (fun q => by cases q) (by rw [arrV_size]; exact inb_in hin) (by rw [arrV_read _ _ (inb_lt hin)]; rfl) rfl rfl hd K
theorem X_zald {a n : Nat} {i : Int32} (hk : h.2.1 a = (23, n)) (hin : inb i n = true) (hd : decode cc pc = .ok (.baload, 1)) (kk : X E B d mc ms y cc maxL ret r (pc + 1) lv (.int (h.2.2.2.1 a (ix i)) :: st) u w h) : X E B d mc ms y cc maxL ret r pc lv (.int i :: .ref a :: st) u w h := by
  intro p l e s m args below meth c H locs ls F hW hS hl
  have K := kk p l e s m args below meth c H locs ls F hW hS hl
  obtain ⟨p1, p2, q1⟩ := x_arr hW hk (by decide) (by decide)
  obtain ⟨hx, hb, -, -, -, -, -, -, hEv⟩ := F
  show W p l e _ s m args below meth c H locs u w _ (F0 m pc ls (.int i :: xrf B a :: _))
  rw [x_ref p1]
  exact W.zald (v := .int (h.2.2.2.1 a (ix i))) hx hb q1 ((hEv.1.2 _ _ (x_tys (t := 23) (by decide) (by decide))).1 n _) (fun q => by cases q) (by rw [arrV_size]; exact inb_in hin) (by rw [arrV_read _ _ (inb_lt hin)]; rfl) rfl rfl hd K
theorem X_aald {a n t : Nat} {i : Int32} (hk : h.2.1 a = (t, n)) (ht : 24 ≤ t) (ht2 : t < 29) (hr : (xaty t).isReference = true) (hin : inb i n = true) (hd : decode cc pc = .ok (.aaload, 1)) (kk : X E B d mc ms y cc maxL ret r (pc + 1) lv (.ref (h.2.2.1 a (ix i)) :: st) u w h) : X E B d mc ms y cc maxL ret r pc lv (.int i :: .ref a :: st) u w h := by
  intro p l e s m args below meth c H locs ls F hW hS hl
  have K := kk p l e s m args below meth c H locs ls F hW hS hl
  obtain ⟨p1, p2, q1⟩ := x_arr hW hk (by omega) (by omega)
  obtain ⟨hx, hb, -, -, -, -, -, -, hEv⟩ := F
  show W p l e _ s m args below meth c H locs u w _ (F0 m pc ls (.int i :: xrf B a :: _))
  rw [x_ref p1]
  refine W.aald (v := xrf B (h.2.2.1 a (ix i))) hx hb q1 ((hEv.1.2 _ _ (x_tys (t := t) (by omega) (by omega))).1 n _) hr (fun q => by cases q) (by rw [arrV_size]; exact inb_in hin) ?_ rfl rfl hd K
  rw [arrV_read _ _ (inb_lt hin)]
  unfold xav
  rw [if_neg (by omega), if_pos ht]
theorem X_alen {a n t : Nat} (hk : h.2.1 a = (t, n)) (h1 : ¬ t < 20) (h2 : t < 29) (hd : decode cc pc = .ok (.arraylength, 1)) (kk : X E B d mc ms y cc maxL ret r (pc + 1) lv (.int (nI n) :: st) u w h) : X E B d mc ms y cc maxL ret r pc lv (.ref a :: st) u w h := by
  intro p l e s m args below meth c H locs ls F hW hS hl
  have K := kk p l e s m args below meth c H locs ls F hW hS hl
  obtain ⟨p1, p2, q1⟩ := x_arr hW hk h1 (by omega)
  obtain ⟨hx, hb, -, -, -, -, -, -, hEv⟩ := F
  show W p l e _ s m args below meth c H locs u w _ (F0 m pc ls (xrf B a :: _))
  rw [x_ref p1]
  exact W.alen (n := nI n) hx hb q1 ((hEv.1.2 _ _ (x_tys (t := t) h1 h2)).1 n _) (by rw [arrV_size]; rfl) rfl rfl hd K
theorem X_iast {a n n2 : Nat} {i : Int32} {x : Int32} {K : Nat → Nat × Nat} {P : Nat → Nat → Nat} {I : Nat → Nat → Int32} {L : Nat → Nat → Int64} (hk : K a = (20, n)) (hin : inb i n = true)  (hd : decode cc pc = .ok (.iastore, 1)) (kk : X E B d mc ms y cc maxL ret r (pc + 1) lv st u w (n2, K, P, xu I a (ix i) x, L)) : X E B d mc ms y cc maxL ret r pc lv (.int x :: .int i :: .ref a :: st) u w (n2, K, P, I, L) := by
  intro p l e s m args below meth c H locs ls F hW hS hl
  obtain ⟨p1, p2, q1⟩ := x_arr hW hk (by decide) (by decide)
  have F2 := F
  obtain ⟨hx, hb, -, -, -, -, -, -, hEv⟩ := F
  show W p l e _ s m args below meth c H locs u w _ (F0 m pc ls (.int x :: .int i :: xrf B a :: _))
  rw [x_ref p1]
  refine W.iast hx hb q1 ((hEv.1.2 _ _ (x_tys (t := 20) (by decide) (by decide))).1 n _) (fun q => by cases q) (by rw [arrV_size]; exact inb_in hin) rfl rfl hd (fun H' e1 e2 e3 => ?_)
  refine kk p l e s m args below meth c H' _ ls F2 (xW_upd hW rfl (fun b hb => ⟨rfl, rfl, xu_ne hb, rfl⟩) rfl e2 e3 ?_) (hS.put e2 e3 (show B < B + a by omega)) hl
  refine xC_arr (t := 20) (n := n) hk (by decide) ?_
  rw [e1, arrV_store]
  refine congrArg some (congrArg (arrV _ _) (funext fun j => ?_))
  by_cases hj : j = i.toNatClampNeg
  · subst hj
    simp [updV, xav, xu]
  · simp [updV, xav, xu, hj]
theorem X_last {a n n2 : Nat} {i : Int32} {x : Int64} {K : Nat → Nat × Nat} {P : Nat → Nat → Nat} {I : Nat → Nat → Int32} {L : Nat → Nat → Int64} (hk : K a = (21, n)) (hin : inb i n = true)  (hd : decode cc pc = .ok (.lastore, 1)) (kk : X E B d mc ms y cc maxL ret r (pc + 1) lv st u w (n2, K, P, I, xu L a (ix i) x)) : X E B d mc ms y cc maxL ret r pc lv (.long x :: .int i :: .ref a :: st) u w (n2, K, P, I, L) := by
  intro p l e s m args below meth c H locs ls F hW hS hl
  obtain ⟨p1, p2, q1⟩ := x_arr hW hk (by decide) (by decide)
  have F2 := F
  obtain ⟨hx, hb, -, -, -, -, -, -, hEv⟩ := F
  show W p l e _ s m args below meth c H locs u w _ (F0 m pc ls (.long x :: .int i :: xrf B a :: _))
  rw [x_ref p1]
  refine W.last hx hb q1 ((hEv.1.2 _ _ (x_tys (t := 21) (by decide) (by decide))).1 n _) (fun q => by cases q) (by rw [arrV_size]; exact inb_in hin) rfl rfl hd (fun H' e1 e2 e3 => ?_)
  refine kk p l e s m args below meth c H' _ ls F2 (xW_upd hW rfl (fun b hb => ⟨rfl, rfl, rfl, xu_ne hb⟩) rfl e2 e3 ?_) (hS.put e2 e3 (show B < B + a by omega)) hl
  refine xC_arr (t := 21) (n := n) hk (by decide) ?_
  rw [e1, arrV_store]
  refine congrArg some (congrArg (arrV _ _) (funext fun j => ?_))
  by_cases hj : j = i.toNatClampNeg
  · subst hj
    simp [updV, xav, xu]
  · simp [updV, xav, xu, hj]
theorem X_bast {a n n2 : Nat} {i : Int32} {x : Int32} {K : Nat → Nat × Nat} {P : Nat → Nat → Nat} {I : Nat → Nat → Int32} {L : Nat → Nat → Int64} (hk : K a = (22, n)) (hin : inb i n = true)  (hd : decode cc pc = .ok (.bastore, 1)) (kk : X E B d mc ms y cc maxL ret r (pc + 1) lv st u w (n2, K, P, xu I a (ix i) (xi2b x), L)) : X E B d mc ms y cc maxL ret r pc lv (.int x :: .int i :: .ref a :: st) u w (n2, K, P, I, L) := by
  intro p l e s m args below meth c H locs ls F hW hS hl
  obtain ⟨p1, p2, q1⟩ := x_arr hW hk (by decide) (by decide)
  have F2 := F
  obtain ⟨hx, hb, -, -, -, -, -, -, hEv⟩ := F
  show W p l e _ s m args below meth c H locs u w _ (F0 m pc ls (.int x :: .int i :: xrf B a :: _))
  rw [x_ref p1]
  refine W.bast hx hb q1 ((hEv.1.2 _ _ (x_tys (t := 22) (by decide) (by decide))).1 n _) (fun q => by cases q) (by rw [arrV_size]; exact inb_in hin) rfl rfl hd (fun H' e1 e2 e3 => ?_)
  refine kk p l e s m args below meth c H' _ ls F2 (xW_upd hW rfl (fun b hb => ⟨rfl, rfl, xu_ne hb, rfl⟩) rfl e2 e3 ?_) (hS.put e2 e3 (show B < B + a by omega)) hl
  refine xC_arr (t := 22) (n := n) hk (by decide) ?_
  rw [show narrow .byte (.int x) = .int (xi2b x) from rfl] at e1
  rw [e1, arrV_store]
  refine congrArg some (congrArg (arrV _ _) (funext fun j => ?_))
  by_cases hj : j = i.toNatClampNeg
  · subst hj
    simp [updV, xav, xu]
  · simp [updV, xav, xu, hj]
theorem X_zast {a n n2 : Nat} {i : Int32} {x : Int32} {K : Nat → Nat × Nat} {P : Nat → Nat → Nat} {I : Nat → Nat → Int32} {L : Nat → Nat → Int64} (hk : K a = (23, n)) (hin : inb i n = true) (hz : x = 0 ∨ x = 1) (hd : decode cc pc = .ok (.bastore, 1)) (kk : X E B d mc ms y cc maxL ret r (pc + 1) lv st u w (n2, K, P, xu I a (ix i) x, L)) : X E B d mc ms y cc maxL ret r pc lv (.int x :: .int i :: .ref a :: st) u w (n2, K, P, I, L) := by
  intro p l e s m args below meth c H locs ls F hW hS hl
  obtain ⟨p1, p2, q1⟩ := x_arr hW hk (by decide) (by decide)
  have F2 := F
  obtain ⟨hx, hb, -, -, -, -, -, -, hEv⟩ := F
  show W p l e _ s m args below meth c H locs u w _ (F0 m pc ls (.int x :: .int i :: xrf B a :: _))
  rw [x_ref p1]
  refine W.zast hx hb q1 ((hEv.1.2 _ _ (x_tys (t := 23) (by decide) (by decide))).1 n _) (fun q => by cases q) (by rw [arrV_size]; exact inb_in hin) rfl rfl hd (fun H' e1 e2 e3 => ?_)
  refine kk p l e s m args below meth c H' _ ls F2 (xW_upd hW rfl (fun b hb => ⟨rfl, rfl, xu_ne hb, rfl⟩) rfl e2 e3 ?_) (hS.put e2 e3 (show B < B + a by omega)) hl
  refine xC_arr (t := 23) (n := n) hk (by decide) ?_
  rw [show narrow .boolean (.int x) = .int x by rcases hz with e | e <;> subst e <;> rfl] at e1
  rw [e1, arrV_store]
  refine congrArg some (congrArg (arrV _ _) (funext fun j => ?_))
  by_cases hj : j = i.toNatClampNeg
  · subst hj
    simp [updV, xav, xu]
  · simp [updV, xav, xu, hj]
theorem X_aast {a n n2 t ci b z : Nat} {i : Int32} {K : Nat → Nat × Nat} {P : Nat → Nat → Nat} {I : Nat → Nat → Int32} {L : Nat → Nat → Int64} (hk : K a = (t, n)) (ht : 24 ≤ t) (ht2 : t < 27) (hc : xCF ci) (hty : xaty t = .object (xRN ci)) (hb1 : K b = (ci, z)) (hin : inb i n = true) (hd : decode cc pc = .ok (.aastore, 1)) (kk : X E B d mc ms y cc maxL ret r (pc + 1) lv st u w (n2, K, xu P a (ix i) b, I, L)) : X E B d mc ms y cc maxL ret r pc lv (.ref b :: .int i :: .ref a :: st) u w (n2, K, P, I, L) := by
  intro p l e s m args below meth c H locs ls F hW hS hl
  obtain ⟨p1, p2, q1⟩ := x_arr hW hk (by omega) (by omega)
  have F2 := F
  obtain ⟨hx, hb, -, -, -, -, -, -, hEv⟩ := F
  obtain ⟨hc12, hcl, -, -, -⟩ := hc
  obtain ⟨v1, v2, cell, w1, w2, w3, w4⟩ := x_obj hW hb1 hc12
  obtain ⟨hSl, hfc, kC, hkC, hkind⟩ := hEv.1.1 ci _ hcl
  have hRA := (hEv.1.2 _ _ (x_tys (t := t) (by omega) (by omega))).2
  rw [hty] at hRA
  obtain ⟨kA, comp, g1, g2, g3, g4⟩ := hRA
  have ecomp : comp = E.1 ci := by have := hfc.symm.trans g3; exact (Option.some.inj this).symm
  show W p l e _ s m args below meth c H locs u w _ (F0 m pc ls (xrf B b :: .int i :: xrf B a :: _))
  rw [x_ref p1, x_ref v1]
  refine W.aast (cell := arrV (E.2.2.1 t) n (xav B (n2, K, P, I, L) a t)) (cv := cell) (comp := comp) (t := .object (xRN ci)) hx hb q1 (fun q z => by cases z) (fun q => by cases q) g1 g2 rfl (by rw [ecomp]; exact hkC) ?_ w1 (fun q z => by rw [w3] at z; cases z) (by rw [w2]; exact hkC) (by rw [w2, ecomp]; exact va_assign ⟨hfc, kC, hkC, hkind⟩) rfl rfl hd (fun H' e1 e2 e3 => ?_)
  · rw [arrV_size]
    have q := inb_in hin
    exact ⟨fun z => q (Or.inl z), Nat.not_le.mp (fun z => q (Or.inr z))⟩
  refine kk p l e s m args below meth c H' _ ls F2 (xW_upd hW rfl (fun b2 hb2 => ⟨rfl, xu_ne hb2, rfl, rfl⟩) rfl e2 e3 ?_) (hS.put e2 e3 (show B < B + a by omega)) hl
  refine xC_arr (t := t) (n := n) hk (by omega) ?_
  rw [e1, arrV_store]
  refine congrArg some (congrArg (arrV _ _) (funext fun j => ?_))
  have t1 : ¬ t = 21 := by omega
  by_cases hj : j = i.toNatClampNeg
  · subst hj
    simp [updV, xav, xu, t1, ht, x_ref v1]
  · simp [updV, xav, xu, hj]
end XA

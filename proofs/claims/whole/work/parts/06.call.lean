/-! The tables' facts carried on; entry; calls; new objects and arrays. -/
theorem xEv_same {E : xE} {B : Nat} {u U : State} (hv : u.vm = U.vm) (hh : U.heap = u.heap) (h : xEv E B u) : xEv E B U := by
  obtain ⟨h1, h2, ⟨h3, h4, h5, h5a, h5b⟩, h6, h7, ⟨h8, h8b⟩, ⟨h9, h10⟩, h11⟩ := h
  have al : u.vm.Alike U.vm := by rw [hv]; exact Vm.Alike.refl U.vm
  refine ⟨va_K.moved al h1, fun w hw => ?_, ⟨h3.moved al, h4.moved al, h5.moved al, xAO_moved al h5a, xAO_moved al h5b⟩, by rw [hh]; exact h6.moved al, fun i q hq => (h7 i q hq).same hv.symm, ⟨by rw [hh]; exact h8.moved al, by rw [hh]; exact h8b.moved al⟩, ⟨by rw [hh]; exact h9.moved al, h10⟩, by rw [hh]; exact h11⟩
  exact va_Nw.same (by
    simp only [xNest, List.mem_cons, List.not_mem_nil, or_false] at hw
    rcases hw with rfl | rfl | rfl | rfl | rfl | rfl | rfl | rfl | rfl | rfl <;> rfl) hv (h2 w hw)
theorem xEv_warm {E : xE} {B : Nat} {s U : State} {H : Heap} {locs : List Loc} (hw : s.WarmedH U.vm) (hh : U.heap = H) (hS : va_S (xA B) s.heap H locs) (h : xEv E B s) : xEv E B U := by
  obtain ⟨h1, h2, ⟨h3, h4, h5, h5a, h5b⟩, h6, h7, ⟨h8, h8b⟩, ⟨h9, h10⟩, h11⟩ := h
  have al := hw.alike
  have hk : ∀ a : Nat, a < s.heap.size → ¬ xA B a → H[a]? = s.heap[a]? := hS.2.1
  refine ⟨va_K.moved al h1, fun w hw2 => ?_, ⟨h3.moved al, h4.moved al, h5.moved al, xAO_moved al h5a, xAO_moved al h5b⟩, by rw [hh]; exact (h6.kept hk).moved al, fun i q hq => (h7 i q hq).warm hw, ⟨by rw [hh]; exact (h8.kept hk).moved al, by rw [hh]; exact (h8b.kept hk).moved al⟩, ⟨by rw [hh]; exact (h9.kept (hk _ (by omega) (show ¬ B < _ by omega))).moved al, h10⟩, by rw [hh]; exact Nat.lt_of_lt_of_le h11 hS.1⟩
  have h2w := h2 w hw2
  simp only [xNest, List.mem_cons, List.not_mem_nil, or_false] at hw2
  rcases hw2 with rfl | rfl | rfl | rfl | rfl | rfl | rfl | rfl | rfl | rfl <;> first | exact va_Nw.warmM hw h2w | exact va_Nw.warmC hw h2w
theorem x_args (E : xE) (B : Nat) : ∀ (as : List Value) (i : Nat), lv_args i (as.map (xv E B)) = xlv E B (lv_args i as)
  | [], _ => rfl
  | v :: vs, i => by
    show (i, xv E B v) :: lv_args (if (xv E B v).category = 2 then i + 2 else i + 1) (vs.map (xv E B)) = (i, xv E B v) :: xlv E B (lv_args (if v.category = 2 then i + 2 else i + 1) vs)
    rw [xv_cat, x_args E B vs]
theorem x_slots (E : xE) (B : Nat) : ∀ (as : List Value), (lg_sl (as.map (xv E B))).length = (as.map (fun v => v.category)).sum
  | [] => rfl
  | v :: vs => by
    have ih := x_slots E B vs
    simp only [lg_sl, List.map_cons, List.flatMap_cons, List.length_append, List.sum_cons, xv_cat] at ih ⊢
    rw [ih]
    cases v <;> rfl
theorem MX_of {E : xE} {B d mc ms : Nat} {y : MethodName} {cc : ByteArray} {maxL : Nat} {ret : Option FieldType} {as : List Value} {h : xH} {r : Option Value × xH} {lv : List (Nat × Value)} (hy : plainName y.cls = true) (hlen : (as.map (fun v => v.category)).sum ≤ maxL) (hlv : lv_args 0 as = lv) (k : X E B d mc ms y cc maxL ret r 0 lv [] 0 0 h) : MX E B d mc ms y cc maxL ret as h r := by
  intro l
  refine Met.ofW (cc := cc) (maxL := maxL) (ret := ret) hy rfl ?_
  intro p e s m args below meth c s₁ Bd hml hv
  obtain ⟨rfl, hEv, hW⟩ := hv
  have hts := atoms_spec (ws := xws y cc maxL ret) Bd.pre
  have hl := lv_entry (as.map (xv E B)) (n := maxL) (by rw [x_slots]; exact hlen)
  rw [x_args, hlv] at hl
  rw [lg_entry_eq]
  exact k p l e s m _ below meth c s.heap [] _ ⟨Bd.exec, Bd.bytes, Bd.returns, hml, findClass_of_methodNamed Bd.named, fun w hw => hts w (List.mem_cons_of_mem _ hw), Bd.notSynchronized, (name_of_methodNamed Bd.named Bd.method).1, hEv⟩ hW va_S.rf hl
theorem MX_ofJ {E : xE} {B d mc ms : Nat} {y : MethodName} {cc : ByteArray} {maxL : Nat} {ret : Option FieldType} {as : List Value} {h : xH} {r : Option Value × xH} {lv : List (Nat × Value)} (hy : plainFor y = true) (hlen : (as.map (fun v => v.category)).sum ≤ maxL) (hlv : lv_args 0 as = lv) (k : X E B d mc ms y cc maxL ret r 0 lv [] 0 0 h) : MX E B d mc ms y cc maxL ret as h r := by
  intro l
  refine va_MetF (cc := cc) (maxL := maxL) (ret := ret) hy rfl ?_
  intro p e s m args below meth c s₁ Bd hml hv
  obtain ⟨rfl, hEv, hW⟩ := hv
  have hts := atoms_spec (ws := xws y cc maxL ret) Bd.pre
  have hl := lv_entry (as.map (xv E B)) (n := maxL) (by rw [x_slots]; exact hlen)
  rw [x_args, hlv] at hl
  rw [lg_entry_eq]
  exact k p l e s m _ below meth c s.heap [] _ ⟨Bd.exec, Bd.bytes, Bd.returns, hml, findClass_of_methodNamed Bd.named, fun w hw => hts w (List.mem_cons_of_mem _ hw), Bd.notSynchronized, (name_of_methodNamed Bd.named Bd.method).1, hEv⟩ hW va_S.rf hl
theorem xGI {ws : List Cond} (h : ∀ w ∈ ws, w ∈ xTW) : GoodIn xTW ws := fun w hw => ⟨h w hw, good_of_word (List.mem_filter.mp (h w hw)).2⟩
/-- what a call needs of the words -/
def xML (own : String) (idx : Nat) (y : MethodName) (cc : ByteArray) (maxL : Nat) (ret : Option FieldType) (n : Nat) : Prop :=
  Cond.methodLink own idx y ∈ xTW ∧ Cond.initialized y.cls ∈ xTW ∧ Cond.code y cc maxL ret ∈ xTW ∧ (y.cls ≠ "java/lang/invoke/MethodHandle" ∧ y.cls ≠ "java/lang/invoke/VarHandle" ∧ (parseMethodDescriptor y.desc).map (fun d => d.parameters.length) = some n) ∧ maxL ≤ 45
theorem x_ws {y : MethodName} {cc : ByteArray} {maxL : Nat} {ret : Option FieldType} (h : Cond.code y cc maxL ret ∈ xTW) : GoodIn xTW (xws y cc maxL ret) := xGI (fun w hw => by
  rcases List.mem_cons.mp hw with rfl | h2
  · exact h
  · exact h2)
section XCL
variable {E : xE} {B d mc ms : Nat} {y : MethodName} {cc : ByteArray} {maxL : Nat} {ret : Option FieldType} {r : Option Value × xH} {pc : Nat} {lv lv' : List (Nat × Value)} {st : List Value} {u w : Nat} {h : xH}
/-- behind any call -/
theorem x_go {p : Program} {l : Launch} {e : Env} {s : State} {m : MethodId} {args : Array Value} {below : List Frame} {meth : Method} {c : Code} {H : Heap} {locs : List Loc} {ls : Array Slot} {st0 : List Value} {a : Array Value} {v : Option Value} {h2 : xH} {mc2 ms2 : Nat}
    (F : xF E B y cc maxL ret p s m args meth c) (hS : va_S (xA B) s.heap H locs) (hl : lv_has ls maxL (xlv E B lv))
    (hr : va_Run p l e (xR d mc ms) s m args below meth c H locs u w mc2 ms2 (F0 m pc ls st0) (st.map (xv E B)) (xQ E B (v, h2) a) (xA B))
    (kk : X E B d mc ms y cc maxL ret r (pc + 3) lv (v.toList ++ st) (u + mc2) (w + ms2) h2) :
    W p l e (xR d mc ms) s m args below meth c H locs u w (MQ below (xQ E B r) args s mc ms (xA B)) (F0 m pc ls st0) := by
  intro T hT X
  obtain ⟨v2, s0, t, T', L, h0, X', hL, e1, e2, ⟨⟨hv, hW2⟩, hz, hk⟩, stp⟩ := hr T hT X
  rw [h0] at hz hk
  have hS2 : va_S (xA B) s.heap T'.heap (locs ++ L) := ⟨Nat.le_trans hS.1 (by rw [e1]; exact hz), fun q h1 h2 => by rw [e1, hk q (Nat.lt_of_lt_of_le h1 hS.1) h2]; exact hS.2.1 q h1 h2, fun q hq => by
    rcases List.mem_append.mp hq with h | h
    · exact hS.2.2 q h
    · exact hL q h⟩
  obtain ⟨t2, a1, b1⟩ := kk p l e s m args below meth c T'.heap (locs ++ L) ls F (by rw [e1]; exact hW2) hS2 hl T' rfl X'
  have ev : v2 = v.map (xv E B) := by
    have := hv
    simp only [Outcome.returned.injEq] at this
    exact this
  subst ev
  refine ⟨t2, stp t2 ?_, b1⟩
  cases v with
  | none => exact a1
  | some x => exact a1
theorem x_pre {as : List Value} {p : Program} {s : State} {m : MethodId} {args : Array Value} {meth : Method} {c : Code} {H : Heap} {locs : List Loc} (F : xF E B y cc maxL ret p s m args meth c) (hW : xW E B h H) (hS : va_S (xA B) s.heap H locs) : PreS s H (va_Pc (as.map (xv E B)) (fun U => xEv E B U ∧ xW E B h U.heap)) (as.map (xv E B)) :=
  ⟨fun a U g mk q => ⟨q.1, xEv_same (u := U) (U := U.calling g mk a) rfl rfl q.2.1, q.2.2⟩, fun U hU hw => ⟨rfl, xEv_warm hw hU hS F.2.2.2.2.2.2.2.2, by rw [hU]; exact hW⟩⟩
theorem x_sum (E : xE) (B : Nat) : ∀ st : List Value, ((st.map (xv E B)).map (fun v => v.category)).sum = (st.map (fun v => v.category)).sum
  | [] => rfl
  | v :: vs => by
    simp only [List.map_cons, List.sum_cons, xv_cat]
    rw [x_sum E B vs]
theorem X_callV {idx ci z a n d2 mc2 ms2 maxL2 : Nat} {y2 : MethodName} {cc2 : ByteArray} {ret2 : Option FieldType} {as stk : List Value} {v : Option Value} {h2 : xH} (hM : MX E B d2 mc2 ms2 y2 cc2 maxL2 ret2 (.ref a :: as) h (v, h2)) (hL : xML y.cls idx y2 cc2 maxL2 ret2 n) (hI : Cond.instanceMethod y2 ∈ xTW ∧ Cond.selects (xRN ci) y2 y2 ∈ xTW) (hcl : y2.cls = xRN ci) (hcf : xCF ci) (hk : h.2.1 a = (ci, z)) (hs : as.reverse ++ .ref a :: st = stk) (hn : as.length = n) (hd2 : d2 + 1 ≤ d) (hu : u + mc2 ≤ mc ∧ w + ms2 ≤ ms) (hrm : (st.map (fun v => v.category)).sum ≤ 8) (hd : decode cc pc = .ok (.invokevirtual idx, 3))
    (kk : X E B d mc ms y cc maxL ret r (pc + 3) lv (v.toList ++ st) (u + mc2) (w + ms2) h2) : X E B d mc ms y cc maxL ret r pc lv stk u w h := by
  intro p l e s m args below meth c H locs ls F hW hS hl
  subst hs
  obtain ⟨p1, p2, cell, q1, q2, q3, q4⟩ := x_obj hW hk hcf.1
  obtain ⟨hSl, hfc, kC, hkC, hkind⟩ := F.2.2.2.2.2.2.2.2.1.1 ci _ hcf.2.1
  obtain ⟨l1, l2, l3, l4, l5⟩ := hL
  have hts := F.2.2.2.2.2.1
  have hp := x_pre (as := .ref a :: as) F hW hS
  have ea : xv E B (.ref a) = .ref (B + a) := x_ref p1
  refine x_go F hS hl (va_runV (C := xRN ci) (b := B + a) (As := as.map (xv E B)) (rest := st.map (xv E B)) (own := y.cls) ⟨F.1, F.2.1, F.2.2.2.1, F.2.2.2.2.1, hts⟩ (hM l) (cwV (C := xRN ci) n hts (xGI (fun w hw => ?_)) rfl rfl rfl ⟨hcl, l4⟩ ⟨by show d2 + 1 ≤ d; exact hd2, by show 8 + (maxL2 + 11) + 64 * d2 ≤ 64 * d; omega⟩) ⟨hp.1, ⟨cell, q1, by rw [q3]; rfl, by rw [q2]; exact hfc⟩, fun U hU hw => ?_⟩ rfl (by rw [List.length_map]; exact hn) hl.1 ?_ ?_ hd ⟨hu.1, hu.2⟩) kk
  · unfold wsV at hw
    simp only [List.mem_append, List.mem_cons, List.not_mem_nil, or_false] at hw
    rcases hw with (rfl | rfl | rfl | rfl) | rfl | hw
    · exact l1
    · exact hI.1
    · exact hI.2
    · rw [← hcl]; exact l2
    · exact l3
    · exact hw
  · have hq := hp.2 U hU hw
    rw [List.map_cons, ea] at hq
    rw [List.map_cons, ea]
    exact hq
  · show (as.reverse ++ .ref a :: st).map (xv E B) = _
    rw [List.map_append, List.map_cons, List.map_reverse, ea]
  · show 2 * (F0 m pc ls _).monitorRoom + ((st.map (xv E B)).map (fun v => v.category)).sum ≤ 8
    exact lv_room (by rw [x_sum]; exact hrm)
theorem X_callS {idx n d2 mc2 ms2 maxL2 : Nat} {y2 : MethodName} {cc2 : ByteArray} {ret2 : Option FieldType} {as stk : List Value} {v : Option Value} {h2 : xH} (hM : MX E B d2 mc2 ms2 y2 cc2 maxL2 ret2 as h (v, h2)) (hL : xML y.cls idx y2 cc2 maxL2 ret2 n) (hI : Cond.static y2 ∈ xTW) (hs : as.reverse ++ st = stk) (hn : as.length = n) (hd2 : d2 + 1 ≤ d) (hu : u + mc2 ≤ mc ∧ w + ms2 ≤ ms) (hrm : (st.map (fun v => v.category)).sum ≤ 8) (hd : decode cc pc = .ok (.invokestatic idx, 3))
    (kk : X E B d mc ms y cc maxL ret r (pc + 3) lv (v.toList ++ st) (u + mc2) (w + ms2) h2) : X E B d mc ms y cc maxL ret r pc lv stk u w h := by
  intro p l e s m args below meth c H locs ls F hW hS hl
  subst hs
  obtain ⟨l1, l2, l3, l4, l5⟩ := hL
  have hts := F.2.2.2.2.2.1
  refine x_go F hS hl (va_runS (As := as.map (xv E B)) (rest := st.map (xv E B)) (own := y.cls) ⟨F.1, F.2.1, F.2.2.2.1, F.2.2.2.2.1, hts⟩ (hM l) (va_cwS n hts (xGI (fun w hw => ?_)) rfl rfl rfl l4 ⟨by show d2 + 1 ≤ d; exact hd2, by show 8 + (maxL2 + 11) + 64 * d2 ≤ 64 * d; omega⟩) (x_pre (as := as) F hW hS) rfl (by rw [List.length_map]; exact hn) hl.1 ?_ ?_ hd ⟨hu.1, hu.2⟩) kk
  · unfold va_wsS at hw
    simp only [List.mem_append, List.mem_cons, List.not_mem_nil, or_false] at hw
    rcases hw with (rfl | rfl | rfl) | rfl | hw
    · exact l1
    · exact hI
    · exact l2
    · exact l3
    · exact hw
  · show (as.reverse ++ st).map (xv E B) = _
    rw [List.map_append, List.map_reverse]
  · show 2 * (F0 m pc ls _).monitorRoom + ((st.map (xv E B)).map (fun v => v.category)).sum ≤ 8
    exact lv_room (by rw [x_sum]; exact hrm)
theorem X_callI {idx a n d2 mc2 ms2 maxL2 : Nat} {y2 : MethodName} {cc2 : ByteArray} {as stk : List Value} {h2 : xH} (hM : MX E B d2 mc2 ms2 y2 cc2 maxL2 none (.ref a :: as) h (none, h2)) (hL : xML y.cls idx y2 cc2 maxL2 none n) (hI : Cond.instanceMethod y2 ∈ xTW) (hy : y2.name = "<init>") (ha : a ≠ 0) (hs : as.reverse ++ .ref a :: st = stk) (hn : as.length = n) (hd2 : d2 + 1 ≤ d) (hu : u + mc2 ≤ mc ∧ w + ms2 ≤ ms) (hrm : (st.map (fun v => v.category)).sum ≤ 8) (hd : decode cc pc = .ok (.invokespecial idx, 3))
    (kk : X E B d mc ms y cc maxL ret r (pc + 3) lv st (u + mc2) (w + ms2) h2) : X E B d mc ms y cc maxL ret r pc lv stk u w h := by
  intro p l e s m args below meth c H locs ls F hW hS hl
  subst hs
  obtain ⟨l1, l2, l3, l4, l5⟩ := hL
  have hts := F.2.2.2.2.2.1
  have ea : xv E B (.ref a) = .ref (B + a) := xrf_p B ha
  have hp := x_pre (as := .ref a :: as) F hW hS
  rw [List.map_cons, ea] at hp
  have hM2 : Met l y2 (xws y2 cc2 maxL2 none) (xR d2 mc2 ms2) (va_Pc (Value.ref (B + a) :: as.map (xv E B)) (fun U => xEv E B U ∧ xW E B h U.heap)) (xQ E B (none, h2)) mc2 ms2 (xA B) := by
    have q := hM l
    rw [List.map_cons, ea] at q
    exact q
  refine x_go (v := none) (mc2 := mc2) (ms2 := ms2) (h2 := h2) F hS hl (va_runI (b := B + a) (As := as.map (xv E B)) (rest := st.map (xv E B)) (own := y.cls) ⟨F.1, F.2.1, F.2.2.2.1, F.2.2.2.2.1, hts⟩ hM2 (cwI n hts (x_ws l3) rfl rfl rfl (hts _ l2) (hts _ l1) (hts _ hI) hy l4 ⟨by show d2 + 1 ≤ d; exact hd2, by show 8 + (maxL2 + 11) + 64 * d2 ≤ 64 * d; omega⟩) hp rfl (by rw [List.length_map]; exact hn) hl.1 ?_ ?_ hd ⟨hu.1, hu.2⟩) kk
  · show (as.reverse ++ .ref a :: st).map (xv E B) = _
    rw [List.map_append, List.map_cons, List.map_reverse, ea]
  · show 2 * (F0 m pc ls _).monitorRoom + ((st.map (xv E B)).map (fun v => v.category)).sum ≤ 8
    exact lv_room (by rw [x_sum]; exact hrm)
theorem X_callIN {idx a n d2 mc2 ms2 maxL2 : Nat} {host : String} {y2 : MethodName} {cc2 : ByteArray} {as stk : List Value} {h2 : xH} (hM : MX E B d2 mc2 ms2 y2 cc2 maxL2 none (.ref a :: as) h (none, h2)) (hN : Cond.methodLinkNest y.cls idx y2 host ∈ xNest) (hini : Cond.initialized y2.cls ∈ xTW) (hcd : Cond.code y2 cc2 maxL2 none ∈ xTW) (hds : y2.cls ≠ "java/lang/invoke/MethodHandle" ∧ y2.cls ≠ "java/lang/invoke/VarHandle" ∧ (parseMethodDescriptor y2.desc).map (fun d => d.parameters.length) = some n) (hmL : maxL2 ≤ 45) (hI : Cond.instanceMethod y2 ∈ xTW) (hy : y2.name = "<init>") (ha : a ≠ 0) (hs : as.reverse ++ .ref a :: st = stk) (hn : as.length = n) (hd2 : d2 + 1 ≤ d) (hu : u + mc2 ≤ mc ∧ w + ms2 ≤ ms) (hrm : (st.map (fun v => v.category)).sum ≤ 8) (hd : decode cc pc = .ok (.invokespecial idx, 3))
    (kk : X E B d mc ms y cc maxL ret r (pc + 3) lv st (u + mc2) (w + ms2) h2) : X E B d mc ms y cc maxL ret r pc lv stk u w h := by
  intro p l e s m args below meth c H locs ls F hW hS hl
  subst hs
  have hts := F.2.2.2.2.2.1
  have ea : xv E B (.ref a) = .ref (B + a) := xrf_p B ha
  have hp := x_pre (as := .ref a :: as) F hW hS
  rw [List.map_cons, ea] at hp
  have hM2 : Met l y2 (xws y2 cc2 maxL2 none) (xR d2 mc2 ms2) (va_Pc (Value.ref (B + a) :: as.map (xv E B)) (fun U => xEv E B U ∧ xW E B h U.heap)) (xQ E B (none, h2)) mc2 ms2 (xA B) := by
    have q := hM l
    rw [List.map_cons, ea] at q
    exact q
  refine x_go (v := none) (mc2 := mc2) (ms2 := ms2) (h2 := h2) F hS hl (va_runIN (b := B + a) (As := as.map (xv E B)) (rest := st.map (xv E B)) (own := y.cls) (host := host) ⟨F.1, F.2.1, F.2.2.2.1, F.2.2.2.2.1, hts⟩ hM2 ⟨va_cnB n hts (x_ws hcd) rfl rfl rfl (F.2.2.2.2.2.2.2.2.2.1 _ hN) (hts _ hini) hds ⟨by show d2 + 1 ≤ d; exact hd2, by show 8 + (maxL2 + 11) + 64 * d2 ≤ 64 * d; omega⟩, hy, hts _ hI⟩ hp rfl (by rw [List.length_map]; exact hn) hl.1 ?_ ?_ hd ⟨hu.1, hu.2⟩) kk
  · show (as.reverse ++ .ref a :: st).map (xv E B) = _
    rw [List.map_append, List.map_cons, List.map_reverse, ea]
  · show 2 * (F0 m pc ls _).monitorRoom + ((st.map (xv E B)).map (fun v => v.category)).sum ≤ 8
    exact lv_room (by rw [x_sum]; exact hrm)
theorem X_objInit {idx a : Nat} (hl1 : Cond.methodLink y.cls idx Lib.objectInit ∈ xTW) (hl2 : Cond.instanceMethod Lib.objectInit ∈ xTW) (hl3 : Cond.code Lib.objectInit ⟨#[0xb1]⟩ 1 none ∈ xTW) (ha : a ≠ 0) (hd1 : 1 ≤ d) (hrm : (st.map (fun v => v.category)).sum ≤ 8) (hd : decode cc pc = .ok (.invokespecial idx, 3))
    (kk : X E B d mc ms y cc maxL ret r (pc + 3) lv st u w h) : X E B d mc ms y cc maxL ret r pc lv (.ref a :: st) u w h := by
  intro p l e s m args below meth c H locs ls F hW hS hl
  have K := kk p l e s m args below meth c H locs ls F hW hS hl
  have hts := F.2.2.2.2.2.1
  show W p l e _ s m args below meth c H locs u w _ (F0 m pc ls (xrf B a :: _))
  rw [xrf_p B ha]
  refine W.objInit F.1 F.2.1 F.2.2.2.2.1 (hts _ hl1) (hts _ hl2) (hts _ hl3) rfl (by rw [F.2.2.2.1]; exact hl.1) rfl hd (by show 1 ≤ d; exact hd1) ?_ K
  show 2 * (F0 m pc ls _).monitorRoom + ((st.map (xv E B)).map (fun v => v.category)).sum + 12 ≤ 64 * d
  have := lv_room (m := m) (pc := pc) (ls := ls) (rest := (Value.ref (B + a) :: st.map (xv E B))) (st := st.map (xv E B)) (by rw [x_sum]; exact hrm)
  omega
end XCL

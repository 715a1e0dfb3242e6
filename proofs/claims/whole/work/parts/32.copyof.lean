/-! clone of an int array, Arrays.copyOf, RuleReader.made. -/
/-- the memory with a copy of the first n of an int array -/
def xcpy (h : xH) (a n : Nat) : xH := (h.1 + 1, xk h.2.1 (h.1 + 1) (20, n), xz h.2.2.1 (h.1 + 1) 0, xrow (xz h.2.2.2.1 (h.1 + 1) 0) (h.1 + 1) (va_cpy (h.2.2.2.1 a) (fun _ => 0) 0 0 n), xz h.2.2.2.2 (h.1 + 1) 0)
theorem xcpy_1 (h : xH) (a n : Nat) : (xcpy h a n).1 = h.1 + 1 := rfl
theorem xcpy_K {h : xH} {a n b : Nat} (hb : b ≤ h.1) : (xcpy h a n).2.1 b = h.2.1 b := xk_ne (by omega)
theorem xcpy_N (h : xH) (a n : Nat) : (xcpy h a n).2.1 (h.1 + 1) = (20, n) := xk_at
section XCO
variable {E : xE} {B d mc ms : Nat} {y : MethodName} {cc : ByteArray} {maxL : Nat} {ret : Option FieldType} {r : Option Value × xH} {pc : Nat} {lv lv' : List (Nat × Value)} {st : List Value} {u w : Nat} {h : xH}
theorem X_cloneI {idx a n : Nat} (hk : h.2.1 a = (20, n)) (hl1 : Cond.methodLink y.cls idx ⟨"[I", "clone", "()Ljava/lang/Object;"⟩ ∈ xTW) (hd1 : 1 ≤ d) (hu : u + 1 ≤ mc ∧ w + n ≤ ms) (hrm : (st.map (fun v => v.category)).sum ≤ 8) (hd : decode cc pc = .ok (.invokevirtual idx, 3)) (kk : X E B d mc ms y cc maxL ret r (pc + 3) lv (.ref (h.1 + 1) :: st) (u + 1) (w + n) (xcpy h a n)) : X E B d mc ms y cc maxL ret r pc lv (.ref a :: st) u w h := by
  intro p l e s m args below meth c H locs ls F hW hS hl
  have hts := F.2.2.2.2.2.1
  have hEv := F.2.2.2.2.2.2.2.2
  obtain ⟨p1, p2, q1⟩ := x_arr hW hk (by decide) (by decide)
  have hAr := (hEv.1.2 _ _ (x_tys (t := 20) (by decide) (by decide)))
  have hnm : s.vm.findClass "[I" = some (E.2.2.1 20) := va_nm_int hAr.2
  have hcl : va_Nw (.castable "[I" "java/lang/Cloneable") s := hEv.2.1 _ (by simp [xNest])
  obtain ⟨c0, t0', f1, f2, f3⟩ := Cond.castable_spec (va_Nw.use (A := args) rfl hcl)
  cases hnm.symm.trans f1
  show W p l e _ s m args below meth c H locs u w _ (F0 m pc ls (xrf B a :: _))
  rw [x_ref p1]
  intro T hT XS
  generalize hcell : arrV (E.2.2.1 20) n (xav B h a 20) = cell at q1
  have hsz : cell.slots.size = n := by rw [← hcell]; exact arrV_size _ _ _
  have hvm0 : cell.vm = .none := by rw [← hcell]; rfl
  have hcl0 : cell.cls = E.2.2.1 20 := by rw [← hcell]; rfl
  have hcellE : ({ cls := cell.cls, slots := cell.slots } : Cell) = cell := by rw [← hcell]; rfl
  obtain ⟨-, kA, hkA, comp, hkind⟩ := State.isArrayOf_alike XS.warmed.alike (hAr.1 0 (fun _ => .null))
  obtain ⟨-, kS, hkS, compS, hkindS⟩ := hAr.1 0 (fun _ => .null)
  obtain ⟨vm', X', stp⟩ := XS.cloneArray F.1 F.2.2.2.2.1 (hts _ hl1) (hts _ cn_s) (hts _ cn_n) (hts _ cn_i) (hts _ cn_e) (a := B + a) (cell := cell) (by rw [hT]; exact q1) (fun k h => by rw [hvm0] at h; cases h) (by rw [hvm0]; exact fun h => by cases h) (by rw [hcl0]; exact hnm) f2 (by rw [hcl0]; exact f3)
    (fun i v hv => by
      rw [hcl0]
      have hk' : T.vm.classes[E.2.2.1 20]? = some kA := hkA
      have hfit : fits (xaty 20) v = true := by
        rw [← hcell] at hv
        exact va_fit (ty := .int) (fun i _ => rfl) i v hv
      simpa [State.fitsSlot, State.slotType?, hk', hkind] using hfit)
    (g := F0 m pc ls (.ref (B + a) :: st.map (xv E B))) rfl (by rw [F.2.2.2.1]; exact hl.1) rfl (by rw [F.2.1]; exact hd) (by show 1 ≤ d; exact hd1) (by
      have q : ((st.map (xv E B)).map (fun v => v.category)).sum ≤ 8 := by rw [x_sum]; exact hrm
      show 2 * 0 + ((st.map (xv E B)).map (fun v => v.category)).sum + 14 ≤ 64 * d
      omega) hu.1 (by rw [hsz]; exact hu.2) (hloader := by rw [hcl0]; exact Vm.clonesLoader_of_array hkS hkindS)
  rw [hcellE] at X' stp
  rw [hsz] at X'
  generalize hH1 : H.push cell = H1
  have z1 : H1.size = H.size + 1 := by rw [← hH1, Array.size_push]
  have e1 : H1[H.size]? = some cell := by rw [← hH1, Array.getElem?_push_size]
  have o1 : ∀ q : Nat, q < H.size → H1[q]? = H[q]? := fun q hq => by rw [← hH1, Array.getElem?_push, if_neg (Nat.ne_of_lt hq)]
  have hW1 : xW E B (xcpy h a n) H1 := by
    refine ⟨?_, fun b hb => ?_⟩
    · show H1.size = B + (h.1 + 1) + 1
      rw [z1, hW.1]; omega
    · by_cases eb : b = h.1 + 1
      · subst eb
        refine ⟨by omega, Nat.le_refl _, xC_arr (t := 20) (n := n) (xcpy_N h a n) (by decide) ?_⟩
        rw [show B + (h.1 + 1) = H.size by rw [hW.1]; omega, e1, ← hcell]
        have hx : ∀ j, j < n → xav B h a 20 j = xav B (xcpy h a n) (h.1 + 1) 20 j := by
          intro j hj
          show Value.int (h.2.2.2.1 a j) = Value.int (xrow (xz h.2.2.2.1 (h.1 + 1) 0) (h.1 + 1) (va_cpy (h.2.2.2.1 a) (fun _ => 0) 0 0 n) (h.1 + 1) j)
          rw [xrow_at, pk_cpy_in (Nat.zero_le _) (by omega)]
          simp
        refine congrArg some ?_
        unfold arrV
        congr 1
        apply Array.ext
        · simp
        · intro i hi1 hi2
          simp only [Array.getElem_ofFn]
          exact hx i (by simpa using hi1)
      · have hb2 : (h.2.1 b).1 < 30 := by
          have : (xcpy h a n).2.1 b = h.2.1 b := xk_ne eb
          rw [this] at hb; exact hb
        obtain ⟨p1, p2, p3⟩ := hW.2 b hb2
        refine ⟨p1, Nat.le_succ_of_le p2, xC_congr ⟨xk_ne eb, xz_ne eb, ?_, xz_ne eb⟩ (o1 _ (by rw [hW.1]; omega)) p3⟩
        show xrow (xz h.2.2.2.1 (h.1 + 1) 0) (h.1 + 1) _ b = _
        rw [xrow_ne eb, xz_ne eb]
  obtain ⟨t, b1, b2⟩ := kk p l e s m args below meth c H1 locs ls F hW1 (xS_new hS (by rw [z1]; omega) o1) hl _ (by rw [← hH1, ← hT]; rfl) X'
  refine ⟨t, stp t ?_, b2⟩
  have ea : xv E B (.ref (h.1 + 1)) = .ref T.heap.size := by
    rw [hT, hW.1, show B + h.1 + 1 = B + (h.1 + 1) by omega]
    exact xrf_p B (by omega)
  rw [List.map_cons, ea] at b1
  exact b1
theorem X_castI {idx a n : Nat} (hk : h.2.1 a = (20, n)) (hl1 : Cond.classLink y.cls idx "[I" ∈ xTW) (hd : decode cc pc = .ok (.checkcast idx, 3)) (kk : X E B d mc ms y cc maxL ret r (pc + 3) lv (.ref a :: st) u w h) : X E B d mc ms y cc maxL ret r pc lv (.ref a :: st) u w h := by
  intro p l e s m args below meth c H locs ls F hW hS hl
  have K := kk p l e s m args below meth c H locs ls F hW hS hl
  have hEv := F.2.2.2.2.2.2.2.2
  obtain ⟨p1, p2, q1⟩ := x_arr hW hk (by decide) (by decide)
  have hAr := (hEv.1.2 _ _ (x_tys (t := 20) (by decide) (by decide)))
  have hnm : s.vm.findClass "[I" = some (E.2.2.1 20) := va_nm_int hAr.2
  have ea : xv E B (.ref a) = .ref (B + a) := x_ref p1
  rw [List.map_cons, ea] at K ⊢
  intro T hT XS
  obtain ⟨vm', X', stp⟩ := XS.checkcastYes F.1 F.2.2.2.2.1 (F.2.2.2.2.2.1 _ hl1) (by rw [hT]; exact q1) rfl hnm (va_asg _ _) (g := F0 m pc ls (.ref (B + a) :: st.map (xv E B))) rfl rfl (by rw [F.2.1]; exact hd)
  obtain ⟨t, a1, b1⟩ := K (T.setVm vm') hT X'
  exact ⟨t, stp t a1, b1⟩
end XCO
set_option maxHeartbeats 1000000 in
set_option maxRecDepth 100000 in
theorem kJ7_copyOf {E : xE} {B : Nat} {h : xH} {a n len : Nat} (d : Nat) (hd : 2 ≤ d) (ha : a ≤ h.1) (hk : h.2.1 a = (20, len)) (hn : n ≤ len) (hlen : len ≤ 1000) (hGm : ∀ (x y : Int32) (h : xH), MX E B 1 0 0 yJ9_min_7cf53 cJ9_min_7cf53 2 (some .int) [.int x, .int y] h (some (.int (if x ≤ y then x else y)), h)) : MX E B d 1 n yJ7_copyOf_59c91 cJ7_copyOf_59c91 3 (some (.array .int)) [.ref a, .int (nI n)] h (some (.ref (h.1 + 1)), xcpy h a n) := by
  refine MX_ofJ (lv := [(0, .ref a), (1, .int (nI n))]) (by decide +kernel) (Nat.le_of_ble_eq_true rfl) rfl ?_
  refine X_iload_n 1 dJ7_copyOf_59c91_0 rfl rfl ?_
  refine X_aload_n 0 dJ7_copyOf_59c91_1 rfl rfl rfl ?_
  refine X_alen hk (by decide) (by decide) dJ7_copyOf_59c91_2 ?_
  refine X_icmp_ne (tgt := 14) dJ7_copyOf_59c91_3 (by decide) (fun c => ?_) (fun c => ?_)
  · have hlt : n < len := by
      rcases Nat.lt_or_ge n len with q | q
      · exact q
      · exact absurd (by rw [show n = len by omega]) c
    have en : ix (nI n) = n := nI_clamp (by omega)
    refine X_iload_n 1 dJ7_copyOf_59c91_14 rfl rfl ?_
    refine X_newaJ (t := 20) (N := n) (b := h.1 + 1) rfl (by decide) (by decide) ac_int en rfl (nI_pos (by omega)) (by show n * 4 ≤ _; omega) ⟨by omega, by omega⟩ dJ7_copyOf_59c91_15 ?_
    refine X_astore_n (lv' := [(2, .ref (h.1 + 1)), (0, .ref a), (1, .int (nI n))]) dJ7_copyOf_59c91_17 rfl (by decide) rfl rfl ?_
    refine X_aload_n 1 dJ7_copyOf_59c91_18 rfl rfl rfl ?_
    refine X_iconst (v := (0 : Int32)) dJ7_copyOf_59c91_19 (by decide) ?_
    refine X_aload_n 0 dJ7_copyOf_59c91_20 rfl rfl rfl ?_
    refine X_iconst (v := (0 : Int32)) dJ7_copyOf_59c91_21 (by decide) ?_
    refine X_aload_n 1 dJ7_copyOf_59c91_22 rfl rfl rfl ?_
    have hk2 : (xnew h (20, n)).2.1 a = (20, len) := by rw [xnew_K ha]; exact hk
    refine X_alen hk2 (by decide) (by decide) dJ7_copyOf_59c91_23 ?_
    refine X_iload_n 2 dJ7_copyOf_59c91_24 rfl rfl ?_
    refine X_cS1 (hGm _ _ _) ml_J7_304 ms_J9_min_7cf53 rfl rfl hd ⟨by omega, by omega⟩ (Nat.le_of_ble_eq_true rfl) dJ7_copyOf_59c91_25 ?_
    have emin : (if nI len ≤ nI n then nI len else nI n) = nI n := if_neg (nI_ge hlt (by omega))
    rw [emin]
    refine X_copyI (n2 := (xnew h (20, n)).1) (K := (xnew h (20, n)).2.1) (P := (xnew h (20, n)).2.2.1) (I := (xnew h (20, n)).2.2.2.1) (L := (xnew h (20, n)).2.2.2.2) hk2 (xnew_N h _) al_J7_150 ay_n ay_s ay_i ?_ (by omega) (Nat.le_of_ble_eq_true rfl) dJ7_copyOf_59c91_28 ?_
    · have e0 : ix (0 : Int32) = 0 := by decide
      have e1 : (nI n).toInt = (n : Int) := nI_toInt (by omega)
      simp only [xcb, Bool.and_eq_true, decide_eq_true_eq, e0, en, e1]
      refine ⟨⟨⟨⟨by decide, by decide⟩, by omega⟩, by omega⟩, by omega⟩
    refine X_aload_n 0 dJ7_copyOf_59c91_31 rfl rfl rfl ?_
    have hfin : xcpy h a n = ((xnew h (20, n)).1, (xnew h (20, n)).2.1, (xnew h (20, n)).2.2.1, xrow (xnew h (20, n)).2.2.2.1 (h.1 + 1) (va_cpy ((xnew h (20, n)).2.2.2.1 a) ((xnew h (20, n)).2.2.2.1 (h.1 + 1)) (ix (0 : Int32)) (ix (0 : Int32)) (ix (nI n))), (xnew h (20, n)).2.2.2.2) := by
      have e0 : ix (0 : Int32) = 0 := by decide
      rw [e0, en]
      have f1 : (xnew h (20, n)).2.2.2.1 a = h.2.2.2.1 a := xz_ne (by omega)
      have f2 : (xnew h (20, n)).2.2.2.1 (h.1 + 1) = fun _ => 0 := funext fun j => xz_at
      rw [f1, f2]
      rfl
    rw [← hfin]
    refine X_widen (u2 := 1) (w2 := n) (by omega) (by omega) ?_
    exact X_aret dJ7_copyOf_59c91_32 rfl (Or.inr ⟨_, rfl⟩) rfl
  · have hle : n = len := by
      have := (nI_eq (by omega) (by omega)).mp c
      exact this
    subst hle
    refine X_aload_n 0 dJ7_copyOf_59c91_6 rfl rfl rfl ?_
    refine X_cloneI hk cn_l (by omega) ⟨by omega, by omega⟩ (Nat.le_of_ble_eq_true rfl) dJ7_copyOf_59c91_7 ?_
    refine X_castI (xcpy_N h a n) cl_J7_317 dJ7_copyOf_59c91_10 ?_
    refine X_widen (u2 := 1) (w2 := n) (by omega) (by omega) ?_
    exact X_aret dJ7_copyOf_59c91_13 rfl (Or.inr ⟨_, rfl⟩) rfl

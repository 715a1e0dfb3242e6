/-! Texts and the script. -/
def xnS : Nat := 24
section XST
variable {E : xE} {B d mc ms : Nat} {y : MethodName} {cc : ByteArray} {maxL : Nat} {ret : Option FieldType} {r : Option Value × xH} {pc : Nat} {lv lv' : List (Nat × Value)} {st : List Value} {u w : Nat} {h : xH}
theorem xsa_K {k : Nat} (h : k < 24) : xsa E k = E.2.2.2.1 k := if_pos (by omega)
theorem xsa_V {k : Nat} (h : k < 24) : xsa E (100 + k) = E.2.2.2.2.1 k := by
  unfold xsa
  rw [if_neg (by omega), if_pos (by omega), show 100 + k - 100 = k by omega]
theorem xsv_K {k : Nat} (h : k < 24) : xsv E k = .ref (E.2.2.2.1 k) := by
  unfold xsv
  rw [if_neg (by omega), xsa_K h]
theorem xsv_V {k : Nat} (h : k < 24) : xsv E (100 + k) = .ref (E.2.2.2.2.1 k) := by
  unfold xsv
  rw [if_neg (by omega), xsa_V h]
theorem X_ldcS {i idx : Nat} {tx : String} (hq : xSt[i]? = some (y.cls, idx, tx)) (hi : i < 24) (hd : decode cc pc = .ok (.ldc idx, 2)) (kk : X E B d mc ms y cc maxL ret r (pc + 2) lv (.retAddr i :: st) u w h) : X E B d mc ms y cc maxL ret r pc lv st u w h := by
  intro p l e s m args below meth c H locs ls F hW hS hl
  have K := kk p l e s m args below meth c H locs ls F hW hS hl
  rw [List.map_cons, show xv E B (.retAddr i) = .ref (E.2.2.2.1 i) from xsv_K hi] at K
  exact va_ldcS F.1 F.2.1 F.2.2.2.2.1 (F.2.2.2.2.2.2.2.2.2.2.2.2.1 i _ hq) hd K
theorem X_ldcwS {i idx : Nat} {tx : String} (hq : xSt[i]? = some (y.cls, idx, tx)) (hi : i < 24) (hd : decode cc pc = .ok (.ldc_w idx, 3)) (kk : X E B d mc ms y cc maxL ret r (pc + 3) lv (.retAddr i :: st) u w h) : X E B d mc ms y cc maxL ret r pc lv st u w h := by
  intro p l e s m args below meth c H locs ls F hW hS hl T hT XS
  have K := kk p l e s m args below meth c H locs ls F hW hS hl
  rw [List.map_cons, show xv E B (.retAddr i) = .ref (E.2.2.2.1 i) from xsv_K hi] at K
  obtain ⟨t, a1, b1⟩ := K T hT XS
  have hZ := F.2.2.2.2.2.2.2.2.2.2.2.2.1 i _ hq
  exact ⟨t, XS.ldcStringW F.1 F.2.2.2.2.1 (text := tx) (a := E.2.2.2.1 i) hZ.1 hZ.2 (g := F0 m pc ls (st.map (xv E B))) rfl (by rw [F.2.1]; exact hd) t a1, b1⟩
theorem X_sVal {k idx : Nat} (hk : k < 24) (hlk : Cond.fieldLink y.cls idx "java/lang/String" "value" "[B" ∈ xTW) (hd : decode cc pc = .ok (.getfield idx, 3)) (kk : X E B d mc ms y cc maxL ret r (pc + 3) lv (.retAddr (100 + k) :: st) u w h) : X E B d mc ms y cc maxL ret r pc lv (.retAddr k :: st) u w h := by
  intro p l e s m args below meth c H locs ls F hW hS hl
  have K := kk p l e s m args below meth c H locs ls F hW hS hl
  rw [List.map_cons, show xv E B (.retAddr (100 + k)) = .ref (E.2.2.2.2.1 k) from xsv_V hk] at K
  rw [List.map_cons, show xv E B (.retAddr k) = .ref (E.2.2.2.1 k) from xsv_K hk]
  exact vk_getf F.1 F.2.1 (F.2.2.2.2.2.2.2.2.2.2.2.1.1 k hk).2.2.1 hS F.2.2.2.2.1 (F.2.2.2.2.2.1 _ hlk) (fun _ h9 => h9) hd K
theorem X_sCod {k idx : Nat} (hk : k < 24) (hlk : Cond.fieldLink y.cls idx "java/lang/String" "coder" "B" ∈ xTW) (hd : decode cc pc = .ok (.getfield idx, 3)) (kk : X E B d mc ms y cc maxL ret r (pc + 3) lv (.int 0 :: st) u w h) : X E B d mc ms y cc maxL ret r pc lv (.retAddr k :: st) u w h := by
  intro p l e s m args below meth c H locs ls F hW hS hl
  have K := kk p l e s m args below meth c H locs ls F hW hS hl
  rw [List.map_cons, show xv E B (.retAddr k) = .ref (E.2.2.2.1 k) from xsv_K hk]
  exact vk_getf F.1 F.2.1 (F.2.2.2.2.2.2.2.2.2.2.2.1.1 k hk).2.1 hS F.2.2.2.2.1 (F.2.2.2.2.2.1 _ hlk) (fun _ h9 => h9) hd K
theorem X_sLen {k : Nat} (hk : k < 24) (hd : decode cc pc = .ok (.arraylength, 1)) (kk : X E B d mc ms y cc maxL ret r (pc + 1) lv (.int (nI (xSl.getD k 0)) :: st) u w h) : X E B d mc ms y cc maxL ret r pc lv (.retAddr (100 + k) :: st) u w h := by
  intro p l e s m args below meth c H locs ls F hW hS hl
  have K := kk p l e s m args below meth c H locs ls F hW hS hl
  rw [List.map_cons, show xv E B (.retAddr (100 + k)) = .ref (E.2.2.2.2.1 k) from xsv_V hk]
  exact va_tlen F.1 F.2.1 (F.2.2.2.2.2.2.2.2.2.2.2.1.1 k hk).2.2.2 hS rfl hd K
theorem X_sAt {k : Nat} {i : Int32} (hk : k < 24) (hin : inb i (xSl.getD k 0) = true) (hd : decode cc pc = .ok (.baload, 1)) (kk : X E B d mc ms y cc maxL ret r (pc + 1) lv (.int ((xSb.getD k []).getD (ix i) 0) :: st) u w h) : X E B d mc ms y cc maxL ret r pc lv (.int i :: .retAddr (100 + k) :: st) u w h := by
  intro p l e s m args below meth c H locs ls F hW hS hl
  have K := kk p l e s m args below meth c H locs ls F hW hS hl
  show W p l e _ s m args below meth c H locs u w _ (F0 m pc ls (.int i :: xv E B (.retAddr (100 + k)) :: _))
  rw [show xv E B (.retAddr (100 + k)) = .ref (E.2.2.2.2.1 k) from xsv_V hk]
  exact va_tb F.1 F.2.1 (F.2.2.2.2.2.2.2.2.2.2.2.1.1 k hk).2.2.2 hS (inb_in hin) rfl hd K
theorem X_sCS {idx : Nat} (hlk : Cond.fieldLink y.cls idx "java/lang/String" "COMPACT_STRINGS" "Z" ∈ xTW) (hd : decode cc pc = .ok (.getstatic idx, 3)) (kk : X E B d mc ms y cc maxL ret r (pc + 3) lv (.int 1 :: st) u w h) : X E B d mc ms y cc maxL ret r pc lv st u w h := by
  intro p l e s m args below meth c H locs ls F hW hS hl
  have K := kk p l e s m args below meth c H locs ls F hW hS hl
  exact va_gets F.1 F.2.1 F.2.2.2.2.2.2.2.2.2.2.2.2.2.1.1 hS F.2.2.2.2.1 (F.2.2.2.2.2.1 _ hlk) (fun _ h9 => h9) hd K
theorem X_sFm {idx : Nat} (hlk : Cond.fieldLink y.cls idx "jdk/internal/util/Preconditions" "SIOOBE_FORMATTER" "Ljava/util/function/BiFunction;" ∈ xTW) (hd : decode cc pc = .ok (.getstatic idx, 3)) (kk : X E B d mc ms y cc maxL ret r (pc + 3) lv (.retAddr 50 :: st) u w h) : X E B d mc ms y cc maxL ret r pc lv st u w h := by
  intro p l e s m args below meth c H locs ls F hW hS hl
  have K := kk p l e s m args below meth c H locs ls F hW hS hl
  exact va_gets F.1 F.2.1 F.2.2.2.2.2.2.2.2.2.2.2.2.2.1.2 hS F.2.2.2.2.1 (F.2.2.2.2.2.1 _ hlk) (fun _ h9 => h9) hd K
theorem X_xLen (hd : decode cc pc = .ok (.arraylength, 1)) (kk : X E B d mc ms y cc maxL ret r (pc + 1) lv (.int (nI E.2.2.2.2.2.2.1) :: st) u w h) : X E B d mc ms y cc maxL ret r pc lv (.retAddr 1000 :: st) u w h := by
  intro p l e s m args below meth c H locs ls F hW hS hl
  have K := kk p l e s m args below meth c H locs ls F hW hS hl
  have hX := F.2.2.2.2.2.2.2.2.2.2.2.2.2.2
  show W p l e _ s m args below meth c H locs u w _ (F0 m pc ls (.ref E.2.2.2.2.2.1 :: _))
  exact va_slen F.1 F.2.1 hX.1.1 (Nat.lt_of_le_of_lt hX.1.2 hX.2) (show ¬ B < _ by have := hX.1.2; omega) hS hd K
theorem X_xAt {i : Int32} (hin : inb i E.2.2.2.2.2.2.1 = true) (hd : decode cc pc = .ok (.iaload, 1)) (kk : X E B d mc ms y cc maxL ret r (pc + 1) lv (.int (E.2.2.2.2.2.2.2 (ix i)) :: st) u w h) : X E B d mc ms y cc maxL ret r pc lv (.int i :: .retAddr 1000 :: st) u w h := by
  intro p l e s m args below meth c H locs ls F hW hS hl
  have K := kk p l e s m args below meth c H locs ls F hW hS hl
  have hX := F.2.2.2.2.2.2.2.2.2.2.2.2.2.2
  show W p l e _ s m args below meth c H locs u w _ (F0 m pc ls (.int i :: .ref E.2.2.2.2.2.1 :: _))
  exact va_sld F.1 F.2.1 hX.1.1 (Nat.lt_of_le_of_lt hX.1.2 hX.2) (show ¬ B < _ by have := hX.1.2; omega) hS (inb_in hin) hd K
theorem X_callT {idx k n d2 mc2 ms2 maxL2 : Nat} {y2 : MethodName} {cc2 : ByteArray} {ret2 : Option FieldType} {as stk : List Value} {v : Option Value} {h2 : xH} (hM : MX E B d2 mc2 ms2 y2 cc2 maxL2 ret2 (.retAddr k :: as) h (v, h2)) (hL : xML y.cls idx y2 cc2 maxL2 ret2 n) (hI : Cond.instanceMethod y2 ∈ xTW ∧ Cond.selects "java/lang/String" y2 y2 ∈ xTW) (hcl : y2.cls = "java/lang/String") (hk : k < 24) (hs : as.reverse ++ .retAddr k :: st = stk) (hn : as.length = n) (hd2 : d2 + 1 ≤ d) (hu : u + mc2 ≤ mc ∧ w + ms2 ≤ ms) (hrm : (st.map (fun v => v.category)).sum ≤ 8) (hd : decode cc pc = .ok (.invokevirtual idx, 3))
    (kk : X E B d mc ms y cc maxL ret r (pc + 3) lv (v.toList ++ st) (u + mc2) (w + ms2) h2) : X E B d mc ms y cc maxL ret r pc lv stk u w h := by
  intro p l e s m args below meth c H locs ls F hW hS hl
  subst hs
  obtain ⟨l1, l2, l3, l4, l5⟩ := hL
  have hts := F.2.2.2.2.2.1
  have hp := x_pre (as := .retAddr k :: as) F hW hS
  have ea : xv E B (.retAddr k) = .ref (E.2.2.2.1 k) := xsv_K hk
  refine x_go F hS hl (va_runV (C := "java/lang/String") (b := E.2.2.2.1 k) (As := as.map (xv E B)) (rest := st.map (xv E B)) (own := y.cls) ⟨F.1, F.2.1, F.2.2.2.1, F.2.2.2.2.1, hts⟩ (hM l) (cwV (C := "java/lang/String") n hts (xGI (fun w hw => ?_)) rfl rfl rfl ⟨hcl, l4⟩ ⟨by show d2 + 1 ≤ d; exact hd2, by show 8 + (maxL2 + 11) + 64 * d2 ≤ 64 * d; omega⟩) ⟨hp.1, vk_recv F.2.2.2.2.2.2.2.2.2.2.2.1 hk hS, fun U hU hw => ?_⟩ rfl (by rw [List.length_map]; exact hn) hl.1 ?_ ?_ hd ⟨hu.1, hu.2⟩) kk
  · unfold wsV at hw
    simp only [List.mem_append, List.mem_cons, List.not_mem_nil, or_false] at hw
    rcases hw with (rfl | rfl | rfl | rfl) | rfl | hw
    · exact l1
    · exact hI.1
    · exact hI.2
    · rw [← hcl]; exact l2
    · exact l3
    · exact hw
  · have hq := hp.2 U hU hw
    rw [List.map_cons, ea] at hq
    rw [List.map_cons, ea]
    exact hq
  · show (as.reverse ++ .retAddr k :: st).map (xv E B) = _
    rw [List.map_append, List.map_cons, List.map_reverse, ea]
  · show 2 * (F0 m pc ls _).monitorRoom + ((st.map (xv E B)).map (fun v => v.category)).sum ≤ 8
    exact lv_room (by rw [x_sum]; exact hrm)
end XST

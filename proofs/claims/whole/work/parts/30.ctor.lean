/-! Constructors: the memory behind them. -/
def pP (h : xH) (a k v : Nat) : xH := (h.1, h.2.1, xu h.2.2.1 a k v, h.2.2.2.1, h.2.2.2.2)
def pI (h : xH) (a k : Nat) (v : Int32) : xH := (h.1, h.2.1, h.2.2.1, xu h.2.2.2.1 a k v, h.2.2.2.2)
theorem pP_1 (h : xH) (a k v : Nat) : (pP h a k v).1 = h.1 := rfl
theorem pI_1 (h : xH) (a k : Nat) (v : Int32) : (pI h a k v).1 = h.1 := rfl
theorem pP_K (h : xH) (a k v : Nat) : (pP h a k v).2.1 = h.2.1 := rfl
theorem pI_K (h : xH) (a k : Nat) (v : Int32) : (pI h a k v).2.1 = h.2.1 := rfl
theorem xnew_1 (h : xH) (t : Nat × Nat) : (xnew h t).1 = h.1 + 1 := rfl
theorem xnew_K {h : xH} {t : Nat × Nat} {b : Nat} (hb : b ≤ h.1) : (xnew h t).2.1 b = h.2.1 b := xk_ne (by omega)
theorem xnew_N (h : xH) (t : Nat × Nat) : (xnew h t).2.1 (h.1 + 1) = t := xk_at
theorem xmulti_1 (h : xH) (t ti N M : Nat) : (xmulti h t ti N M).1 = h.1 + 1 + N := rfl
theorem xmulti_K {h : xH} {t ti N M b : Nat} (hb : b ≤ h.1) : (xmulti h t ti N M).2.1 b = h.2.1 b := by
  simp only [xmulti]
  rw [if_neg (by omega), if_neg (by omega)]
section XCT
variable {E : xE} {B d mc ms : Nat} {y : MethodName} {cc : ByteArray} {maxL : Nat} {ret : Option FieldType} {r : Option Value × xH} {pc : Nat} {lv lv' : List (Nat × Value)} {st : List Value} {u w : Nat} {h : xH}
theorem X_pP {idx ci k a v : Nat} (fin : Bool) (hf : xFL y.cls idx ci k) (hk : h.2.1 a = (ci, 0)) (ht : xkd (xty ci k) = 2) (hfin : (xT ci k).2.2.2 = fin) (hF : fin = true → y.name = "<init>" ∧ (xT ci k).1 = y.cls) (hd : decode cc pc = .ok (.putfield idx, 3)) (kk : X E B d mc ms y cc maxL ret r (pc + 3) lv st u w (pP h a k v)) : X E B d mc ms y cc maxL ret r pc lv (.ref v :: .ref a :: st) u w h :=
  X_putP (n := h.1) (K := h.2.1) (P := h.2.2.1) (I := h.2.2.2.1) (L := h.2.2.2.2) fin hf hk ht hfin hF hd kk
theorem X_pI {idx ci k a : Nat} {v : Int32} (hf : xFL y.cls idx ci k) (hk : h.2.1 a = (ci, 0)) (ht : xty ci k = .int) (hfin : (xT ci k).2.2.2 = false) (hd : decode cc pc = .ok (.putfield idx, 3)) (kk : X E B d mc ms y cc maxL ret r (pc + 3) lv st u w (pI h a k v)) : X E B d mc ms y cc maxL ret r pc lv (.int v :: .ref a :: st) u w h :=
  X_putI (n := h.1) (K := h.2.1) (P := h.2.2.1) (I := h.2.2.2.1) (L := h.2.2.2.2) hf hk ht hfin hd kk
theorem X_iastP {a n j : Nat} {i : Int32} {x : Int32} (hk : h.2.1 a = (20, n)) (hin : inb i n = true) (hj : ix i = j) (hd : decode cc pc = .ok (.iastore, 1)) (kk : X E B d mc ms y cc maxL ret r (pc + 1) lv st u w (pI h a j x)) : X E B d mc ms y cc maxL ret r pc lv (.int x :: .int i :: .ref a :: st) u w h :=
  X_iastJ (n2 := h.1) (K := h.2.1) (P := h.2.2.1) (I := h.2.2.2.1) (L := h.2.2.2.2) hk hin hj hd kk
theorem X_aastP {a n t ci b : Nat} {i : Int32} (hk : h.2.1 a = (t, n)) (ht : 24 ≤ t) (ht2 : t < 27) (hc : xCF ci) (hty : xaty t = .object (xRN ci)) (hb1 : h.2.1 b = (ci, 0)) (hin : inb i n = true) (hd : decode cc pc = .ok (.aastore, 1)) (kk : X E B d mc ms y cc maxL ret r (pc + 1) lv st u w (pP h a (ix i) b)) : X E B d mc ms y cc maxL ret r pc lv (.ref b :: .int i :: .ref a :: st) u w h :=
  X_aast (n2 := h.1) (K := h.2.1) (P := h.2.2.1) (I := h.2.2.2.1) (L := h.2.2.2.2) hk ht ht2 hc hty hb1 hin hd kk
theorem X_newJ {idx ci b N : Nat} (hl1 : xNL y.cls idx ci) (hb : h.1 + 1 = b) (hN : xN ci = N) (hu : u + 1 ≤ mc ∧ w + N ≤ ms) (hd : decode cc pc = .ok (.new idx, 3)) (kk : X E B d mc ms y cc maxL ret r (pc + 3) lv (.ref b :: st) (u + 1) (w + N) (xnew h (ci, 0))) : X E B d mc ms y cc maxL ret r pc lv st u w h := by
  subst hb
  subst hN
  exact X_new hl1 hu hd kk
theorem X_newaJ {t b N : Nat} {at' : ArrayType} {i : Int32} (ht : newarray.typeOf at' = xaty t) (h1 : ¬ t < 20) (h2 : t < 24) (hac : Cond.arrayClass (xaty t) ∈ xTW) (hN : ix i = N) (hb : h.1 + 1 = b) (hi : ¬ i < 0) (hby : N * componentBytes (xaty t) ≤ 536870912) (hu : u + 1 ≤ mc ∧ w + N ≤ ms) (hd : decode cc pc = .ok (.newarray at', 2)) (kk : X E B d mc ms y cc maxL ret r (pc + 2) lv (.ref b :: st) (u + 1) (w + N) (xnew h (t, N))) : X E B d mc ms y cc maxL ret r pc lv (.int i :: st) u w h := by
  subst hN
  subst hb
  exact X_newa ht h1 h2 hac hi hby hu hd kk
theorem X_anewJ {idx t ci b N : Nat} {i : Int32} (h1 : 24 ≤ t) (h2 : t < 27) (hcl : Cond.classLink y.cls idx (xRN ci) ∈ xTW) (hty : xaty t = .object (xRN ci)) (hao : ∀ U, xEv E B U → va_AO (xRN ci) U) (hN : ix i = N) (hb : h.1 + 1 = b) (hi : ¬ i < 0) (hby : N * 4 ≤ 536870912) (hu : u + 1 ≤ mc ∧ w + N ≤ ms) (hd : decode cc pc = .ok (.anewarray idx, 3)) (kk : X E B d mc ms y cc maxL ret r (pc + 3) lv (.ref b :: st) (u + 1) (w + N) (xnew h (t, N))) : X E B d mc ms y cc maxL ret r pc lv (.int i :: st) u w h := by
  subst hN
  subst hb
  exact X_anew h1 h2 hcl hty hao hi hby hu hd kk
theorem X_multiJ {idx t ti b N M : Nat} {ty : FieldType} {n k : Int32} (h1 : (t = 27 ∧ ti = 21 ∧ ty = .long) ∨ (t = 28 ∧ ti = 20 ∧ ty = .int)) (hcl : Cond.classLink y.cls idx ("[" ++ (FieldType.array ty).toString) ∈ xTW) (hac : Cond.arrayClass ty ∈ xTW) (hN : ix n = N) (hM : ix k = M) (hb : h.1 + 1 = b) (hn : ¬ n < 0) (hk : ¬ k < 0) (hb1 : N * 4 ≤ 536870912) (hb2 : M * componentBytes ty ≤ 536870912) (hb3 : M ≤ 536870912) (hu : u + (1 + N) ≤ mc ∧ w + (N + N * M) ≤ ms) (hd : decode cc pc = .ok (.multianewarray idx 2, 4))
    (kk : X E B d mc ms y cc maxL ret r (pc + 4) lv (.ref b :: st) (u + (1 + N)) (w + (N + N * M)) (xmulti h t ti N M)) : X E B d mc ms y cc maxL ret r pc lv (.int k :: .int n :: st) u w h := by
  subst hN
  subst hM
  subst hb
  refine X_multi h1 hcl hac hn hk hb1 hb2 hb3 hu hd ?_
  rw [show u + 1 + ix n = u + (1 + ix n) by omega, show w + ix n + ix n * ix k = w + (ix n + ix n * ix k) by omega]
  exact kk
theorem ao_State {U : State} (h : xEv E B U) : va_AO (xRN 5) U := h.2.2.1.1
theorem ao_Rule {U : State} (h : xEv E B U) : va_AO (xRN 2) U := h.2.2.1.2.1
theorem ao_World {U : State} (h : xEv E B U) : va_AO (xRN 9) U := h.2.2.1.2.2.1
end XCT
def iX6 (h : xH) (a : Nat) : xH := (pP (xnew (pP (xnew h (21, 16)) a 0 (h.1 + 1)) (20, 4)) a 1 (h.1 + 2))
theorem iX6_1 (h : xH) (a : Nat) : (iX6 h a).1 = h.1 + 2 := by
  simp only [iX6, pP_1, pI_1, xnew_1, xmulti_1]
theorem iX6_K {h : xH} {a b : Nat} (hb : b ≤ h.1) : (iX6 h a).2.1 b = h.2.1 b := by
  unfold iX6
  simp (disch := first | omega | (simp only [pP_1, pI_1, xnew_1, xmulti_1]; omega)) only [pP_K, pI_K, pP_1, pI_1, xnew_1, xmulti_1, xnew_K, xmulti_K]
set_option maxHeartbeats 400000 in
set_option maxRecDepth 100000 in
theorem kX6_init {E : xE} {B : Nat} {h : xH} {a : Nat} (d : Nat) (hd : 1 ≤ d) (ha : a ≤ h.1) (hz : a ≠ 0) (h0 : h.2.1 a = (5, 0)) : MX E B d 2 20 yX6_init cX6_init 1 (none : Option Jvm.ClassFile.FieldType) [.ref a] h (none, iX6 h a) := by
  refine MX_of (lv := [(0, .ref a)]) (by decide +kernel) (Nat.le_of_ble_eq_true rfl) rfl ?_
  obtain ⟨d, rfl⟩ : ∃ d0, d = d0 + 1 := ⟨d - 1, by omega⟩
  refine X_aload_n 0 dX6_init_0 rfl rfl rfl ?_
  refine X_objInit ol_X6_3 oi_i oi_c (by omega) (by omega) (Nat.le_of_ble_eq_true rfl) dX6_init_1 ?_
  refine X_aload_n 0 dX6_init_4 rfl rfl rfl ?_
  refine X_bipush (v := (16 : Int32)) dX6_init_5 (by decide) ?_
  refine X_newaJ (t := 21) (N := 16) (b := (h.1 + 1)) rfl (by decide) (by decide) ac_long (by decide) rfl (by decide) (by decide) ⟨by omega, by omega⟩ dX6_init_7 ?_
  refine X_pP true fl_X6_9 (by simp (disch := first | omega | (simp only [pP_1, pI_1, xnew_1, xmulti_1]; omega)) only [pP_K, pI_K, pP_1, pI_1, xnew_1, xmulti_1, xnew_K, xmulti_K, h0]) rfl rfl (fun _ => ⟨rfl, rfl⟩) dX6_init_9 ?_
  refine X_aload_n 0 dX6_init_12 rfl rfl rfl ?_
  refine X_iconst (v := (4 : Int32)) dX6_init_13 (by decide) ?_
  refine X_newaJ (t := 20) (N := 4) (b := (h.1 + 2)) rfl (by decide) (by decide) ac_int (by decide) rfl (by decide) (by decide) ⟨by omega, by omega⟩ dX6_init_14 ?_
  refine X_pP true fl_X6_15 (by simp (disch := first | omega | (simp only [pP_1, pI_1, xnew_1, xmulti_1]; omega)) only [pP_K, pI_K, pP_1, pI_1, xnew_1, xmulti_1, xnew_K, xmulti_K, h0]) rfl rfl (fun _ => ⟨rfl, rfl⟩) dX6_init_16 ?_
  exact X_vret dX6_init_19 rfl
def iX9 (h : xH) (a : Nat) : xH := (pP (xnew (pP (xnew (pP (xnew h (20, 401)) a 0 (h.1 + 1)) (20, 401)) a 1 (h.1 + 2)) (20, 401)) a 2 (h.1 + 3))
theorem iX9_1 (h : xH) (a : Nat) : (iX9 h a).1 = h.1 + 3 := by
  simp only [iX9, pP_1, pI_1, xnew_1, xmulti_1, iX6_1]
theorem iX9_K {h : xH} {a b : Nat} (hb : b ≤ h.1) : (iX9 h a).2.1 b = h.2.1 b := by
  unfold iX9
  simp (disch := first | omega | (simp only [pP_1, pI_1, xnew_1, xmulti_1, iX6_1]; omega)) only [pP_K, pI_K, pP_1, pI_1, xnew_1, xmulti_1, xnew_K, xmulti_K, iX6_1, iX6_K]
set_option maxHeartbeats 400000 in
set_option maxRecDepth 100000 in
theorem kX9_init {E : xE} {B : Nat} {h : xH} {a : Nat} (d : Nat) (hd : 1 ≤ d) (ha : a ≤ h.1) (hz : a ≠ 0) (h0 : h.2.1 a = (8, 0)) : MX E B d 3 1203 yX9_init cX9_init 1 (none : Option Jvm.ClassFile.FieldType) [.ref a] h (none, iX9 h a) := by
  refine MX_of (lv := [(0, .ref a)]) (by decide +kernel) (Nat.le_of_ble_eq_true rfl) rfl ?_
  obtain ⟨d, rfl⟩ : ∃ d0, d = d0 + 1 := ⟨d - 1, by omega⟩
  refine X_aload_n 0 dX9_init_0 rfl rfl rfl ?_
  refine X_objInit ol_X9_3 oi_i oi_c (by omega) (by omega) (Nat.le_of_ble_eq_true rfl) dX9_init_1 ?_
  refine X_aload_n 0 dX9_init_4 rfl rfl rfl ?_
  refine X_sipush (v := (401 : Int32)) dX9_init_5 (by decide) ?_
  refine X_newaJ (t := 20) (N := 401) (b := (h.1 + 1)) rfl (by decide) (by decide) ac_int (by decide) rfl (by decide) (by decide) ⟨by omega, by omega⟩ dX9_init_8 ?_
  refine X_pP true fl_X9_9 (by simp (disch := first | omega | (simp only [pP_1, pI_1, xnew_1, xmulti_1, iX6_1]; omega)) only [pP_K, pI_K, pP_1, pI_1, xnew_1, xmulti_1, xnew_K, xmulti_K, iX6_1, iX6_K, h0]) rfl rfl (fun _ => ⟨rfl, rfl⟩) dX9_init_10 ?_
  refine X_aload_n 0 dX9_init_13 rfl rfl rfl ?_
  refine X_sipush (v := (401 : Int32)) dX9_init_14 (by decide) ?_
  refine X_newaJ (t := 20) (N := 401) (b := (h.1 + 2)) rfl (by decide) (by decide) ac_int (by decide) rfl (by decide) (by decide) ⟨by omega, by omega⟩ dX9_init_17 ?_
  refine X_pP true fl_X9_15 (by simp (disch := first | omega | (simp only [pP_1, pI_1, xnew_1, xmulti_1, iX6_1]; omega)) only [pP_K, pI_K, pP_1, pI_1, xnew_1, xmulti_1, xnew_K, xmulti_K, iX6_1, iX6_K, h0]) rfl rfl (fun _ => ⟨rfl, rfl⟩) dX9_init_19 ?_
  refine X_aload_n 0 dX9_init_22 rfl rfl rfl ?_
  refine X_sipush (v := (401 : Int32)) dX9_init_23 (by decide) ?_
  refine X_newaJ (t := 20) (N := 401) (b := (h.1 + 3)) rfl (by decide) (by decide) ac_int (by decide) rfl (by decide) (by decide) ⟨by omega, by omega⟩ dX9_init_26 ?_
  refine X_pP true fl_X9_18 (by simp (disch := first | omega | (simp only [pP_1, pI_1, xnew_1, xmulti_1, iX6_1]; omega)) only [pP_K, pI_K, pP_1, pI_1, xnew_1, xmulti_1, xnew_K, xmulti_K, iX6_1, iX6_K, h0]) rfl rfl (fun _ => ⟨rfl, rfl⟩) dX9_init_28 ?_
  exact X_vret dX9_init_31 rfl
def iX2 (h : xH) (a : Nat) : xH := (pP (xnew (pP (xnew (pP (xnew (pP (xnew (pP (xnew (pP (xnew h (21, 13)) a 0 (h.1 + 1)) (21, 60)) a 1 (h.1 + 2)) (20, 16)) a 2 (h.1 + 3)) (20, 4)) a 3 (h.1 + 4)) (20, 4)) a 4 (h.1 + 5)) (20, 4)) a 5 (h.1 + 6))
theorem iX2_1 (h : xH) (a : Nat) : (iX2 h a).1 = h.1 + 6 := by
  simp only [iX2, pP_1, pI_1, xnew_1, xmulti_1, iX6_1, iX9_1]
theorem iX2_K {h : xH} {a b : Nat} (hb : b ≤ h.1) : (iX2 h a).2.1 b = h.2.1 b := by
  unfold iX2
  simp (disch := first | omega | (simp only [pP_1, pI_1, xnew_1, xmulti_1, iX6_1, iX9_1]; omega)) only [pP_K, pI_K, pP_1, pI_1, xnew_1, xmulti_1, xnew_K, xmulti_K, iX6_1, iX6_K, iX9_1, iX9_K]
set_option maxHeartbeats 400000 in
set_option maxRecDepth 100000 in
theorem kX2_init {E : xE} {B : Nat} {h : xH} {a : Nat} (d : Nat) (hd : 1 ≤ d) (ha : a ≤ h.1) (hz : a ≠ 0) (h0 : h.2.1 a = (1, 0)) : MX E B d 6 101 yX2_init cX2_init 1 (none : Option Jvm.ClassFile.FieldType) [.ref a] h (none, iX2 h a) := by
  refine MX_of (lv := [(0, .ref a)]) (by decide +kernel) (Nat.le_of_ble_eq_true rfl) rfl ?_
  obtain ⟨d, rfl⟩ : ∃ d0, d = d0 + 1 := ⟨d - 1, by omega⟩
  refine X_aload_n 0 dX2_init_0 rfl rfl rfl ?_
  refine X_objInit ol_X2_3 oi_i oi_c (by omega) (by omega) (Nat.le_of_ble_eq_true rfl) dX2_init_1 ?_
  refine X_aload_n 0 dX2_init_4 rfl rfl rfl ?_
  refine X_bipush (v := (13 : Int32)) dX2_init_5 (by decide) ?_
  refine X_newaJ (t := 21) (N := 13) (b := (h.1 + 1)) rfl (by decide) (by decide) ac_long (by decide) rfl (by decide) (by decide) ⟨by omega, by omega⟩ dX2_init_7 ?_
  refine X_pP true fl_X2_11 (by simp (disch := first | omega | (simp only [pP_1, pI_1, xnew_1, xmulti_1, iX6_1, iX9_1]; omega)) only [pP_K, pI_K, pP_1, pI_1, xnew_1, xmulti_1, xnew_K, xmulti_K, iX6_1, iX6_K, iX9_1, iX9_K, h0]) rfl rfl (fun _ => ⟨rfl, rfl⟩) dX2_init_9 ?_
  refine X_aload_n 0 dX2_init_12 rfl rfl rfl ?_
  refine X_bipush (v := (60 : Int32)) dX2_init_13 (by decide) ?_
  refine X_newaJ (t := 21) (N := 60) (b := (h.1 + 2)) rfl (by decide) (by decide) ac_long (by decide) rfl (by decide) (by decide) ⟨by omega, by omega⟩ dX2_init_15 ?_
  refine X_pP true fl_X2_19 (by simp (disch := first | omega | (simp only [pP_1, pI_1, xnew_1, xmulti_1, iX6_1, iX9_1]; omega)) only [pP_K, pI_K, pP_1, pI_1, xnew_1, xmulti_1, xnew_K, xmulti_K, iX6_1, iX6_K, iX9_1, iX9_K, h0]) rfl rfl (fun _ => ⟨rfl, rfl⟩) dX2_init_17 ?_
  refine X_aload_n 0 dX2_init_20 rfl rfl rfl ?_
  refine X_bipush (v := (16 : Int32)) dX2_init_21 (by decide) ?_
  refine X_newaJ (t := 20) (N := 16) (b := (h.1 + 3)) rfl (by decide) (by decide) ac_int (by decide) rfl (by decide) (by decide) ⟨by omega, by omega⟩ dX2_init_23 ?_
  refine X_pP true fl_X2_22 (by simp (disch := first | omega | (simp only [pP_1, pI_1, xnew_1, xmulti_1, iX6_1, iX9_1]; omega)) only [pP_K, pI_K, pP_1, pI_1, xnew_1, xmulti_1, xnew_K, xmulti_K, iX6_1, iX6_K, iX9_1, iX9_K, h0]) rfl rfl (fun _ => ⟨rfl, rfl⟩) dX2_init_25 ?_
  refine X_aload_n 0 dX2_init_28 rfl rfl rfl ?_
  refine X_iconst (v := (4 : Int32)) dX2_init_29 (by decide) ?_
  refine X_newaJ (t := 20) (N := 4) (b := (h.1 + 4)) rfl (by decide) (by decide) ac_int (by decide) rfl (by decide) (by decide) ⟨by omega, by omega⟩ dX2_init_30 ?_
  refine X_pP true fl_X2_26 (by simp (disch := first | omega | (simp only [pP_1, pI_1, xnew_1, xmulti_1, iX6_1, iX9_1]; omega)) only [pP_K, pI_K, pP_1, pI_1, xnew_1, xmulti_1, xnew_K, xmulti_K, iX6_1, iX6_K, iX9_1, iX9_K, h0]) rfl rfl (fun _ => ⟨rfl, rfl⟩) dX2_init_32 ?_
  refine X_aload_n 0 dX2_init_35 rfl rfl rfl ?_
  refine X_iconst (v := (4 : Int32)) dX2_init_36 (by decide) ?_
  refine X_newaJ (t := 20) (N := 4) (b := (h.1 + 5)) rfl (by decide) (by decide) ac_int (by decide) rfl (by decide) (by decide) ⟨by omega, by omega⟩ dX2_init_37 ?_
  refine X_pP true fl_X2_29 (by simp (disch := first | omega | (simp only [pP_1, pI_1, xnew_1, xmulti_1, iX6_1, iX9_1]; omega)) only [pP_K, pI_K, pP_1, pI_1, xnew_1, xmulti_1, xnew_K, xmulti_K, iX6_1, iX6_K, iX9_1, iX9_K, h0]) rfl rfl (fun _ => ⟨rfl, rfl⟩) dX2_init_39 ?_
  refine X_aload_n 0 dX2_init_42 rfl rfl rfl ?_
  refine X_iconst (v := (4 : Int32)) dX2_init_43 (by decide) ?_
  refine X_newaJ (t := 20) (N := 4) (b := (h.1 + 6)) rfl (by decide) (by decide) ac_int (by decide) rfl (by decide) (by decide) ⟨by omega, by omega⟩ dX2_init_44 ?_
  refine X_pP true fl_X2_32 (by simp (disch := first | omega | (simp only [pP_1, pI_1, xnew_1, xmulti_1, iX6_1, iX9_1]; omega)) only [pP_K, pI_K, pP_1, pI_1, xnew_1, xmulti_1, xnew_K, xmulti_K, iX6_1, iX6_K, iX9_1, iX9_K, h0]) rfl rfl (fun _ => ⟨rfl, rfl⟩) dX2_init_46 ?_
  exact X_vret dX2_init_49 rfl
def iX1 (h : xH) (a : Nat) : xH := (pP (xmulti h 27 21 5 6) a 0 (h.1 + 1))
theorem iX1_1 (h : xH) (a : Nat) : (iX1 h a).1 = h.1 + 6 := by
  simp only [iX1, pP_1, pI_1, xnew_1, xmulti_1, iX6_1, iX9_1, iX2_1]
theorem iX1_K {h : xH} {a b : Nat} (hb : b ≤ h.1) : (iX1 h a).2.1 b = h.2.1 b := by
  unfold iX1
  simp (disch := first | omega | (simp only [pP_1, pI_1, xnew_1, xmulti_1, iX6_1, iX9_1, iX2_1]; omega)) only [pP_K, pI_K, pP_1, pI_1, xnew_1, xmulti_1, xnew_K, xmulti_K, iX6_1, iX6_K, iX9_1, iX9_K, iX2_1, iX2_K]
set_option maxHeartbeats 400000 in
set_option maxRecDepth 100000 in
theorem kX1_init {E : xE} {B : Nat} {h : xH} {a : Nat} (d : Nat) (hd : 1 ≤ d) (ha : a ≤ h.1) (hz : a ≠ 0) (h0 : h.2.1 a = (0, 0)) : MX E B d 6 35 yX1_init cX1_init 1 (none : Option Jvm.ClassFile.FieldType) [.ref a] h (none, iX1 h a) := by
  refine MX_of (lv := [(0, .ref a)]) (by decide +kernel) (Nat.le_of_ble_eq_true rfl) rfl ?_
  obtain ⟨d, rfl⟩ : ∃ d0, d = d0 + 1 := ⟨d - 1, by omega⟩
  refine X_aload_n 0 dX1_init_0 rfl rfl rfl ?_
  refine X_objInit ol_X1_3 oi_i oi_c (by omega) (by omega) (Nat.le_of_ble_eq_true rfl) dX1_init_1 ?_
  refine X_aload_n 0 dX1_init_4 rfl rfl rfl ?_
  refine X_iconst (v := (5 : Int32)) dX1_init_5 (by decide) ?_
  refine X_bipush (v := (6 : Int32)) dX1_init_6 (by decide) ?_
  refine X_multiJ (t := 27) (ti := 21) (ty := .long) (N := 5) (M := 6) (b := (h.1 + 1)) (by decide) cl_X1_9 ac_long (by decide) (by decide) rfl (by decide) (by decide) (by decide) (by decide) (by decide) ⟨by omega, by omega⟩ dX1_init_8 ?_
  refine X_pP true fl_X1_11 (by simp (disch := first | omega | (simp only [pP_1, pI_1, xnew_1, xmulti_1, iX6_1, iX9_1, iX2_1]; omega)) only [pP_K, pI_K, pP_1, pI_1, xnew_1, xmulti_1, xnew_K, xmulti_K, iX6_1, iX6_K, iX9_1, iX9_K, iX2_1, iX2_K, h0]) rfl rfl (fun _ => ⟨rfl, rfl⟩) dX1_init_12 ?_
  exact X_vret dX1_init_15 rfl
def iX5 (h : xH) (a : Nat) : xH := (pP (xnew (pP (xnew (pP (xnew (pP (xmulti h 28 20 6 6) a 0 (h.1 + 1)) (20, 6)) a 1 (h.1 + 8)) (20, 6)) a 2 (h.1 + 9)) (20, 6)) a 3 (h.1 + 10))
theorem iX5_1 (h : xH) (a : Nat) : (iX5 h a).1 = h.1 + 10 := by
  simp only [iX5, pP_1, pI_1, xnew_1, xmulti_1, iX6_1, iX9_1, iX2_1, iX1_1]
theorem iX5_K {h : xH} {a b : Nat} (hb : b ≤ h.1) : (iX5 h a).2.1 b = h.2.1 b := by
  unfold iX5
  simp (disch := first | omega | (simp only [pP_1, pI_1, xnew_1, xmulti_1, iX6_1, iX9_1, iX2_1, iX1_1]; omega)) only [pP_K, pI_K, pP_1, pI_1, xnew_1, xmulti_1, xnew_K, xmulti_K, iX6_1, iX6_K, iX9_1, iX9_K, iX2_1, iX2_K, iX1_1, iX1_K]
set_option maxHeartbeats 400000 in
set_option maxRecDepth 100000 in
theorem kX5_init {E : xE} {B : Nat} {h : xH} {a : Nat} (d : Nat) (hd : 1 ≤ d) (ha : a ≤ h.1) (hz : a ≠ 0) (h0 : h.2.1 a = (4, 0)) : MX E B d 10 60 yX5_init cX5_init 1 (none : Option Jvm.ClassFile.FieldType) [.ref a] h (none, iX5 h a) := by
  refine MX_of (lv := [(0, .ref a)]) (by decide +kernel) (Nat.le_of_ble_eq_true rfl) rfl ?_
  obtain ⟨d, rfl⟩ : ∃ d0, d = d0 + 1 := ⟨d - 1, by omega⟩
  refine X_aload_n 0 dX5_init_0 rfl rfl rfl ?_
  refine X_objInit ol_X5_3 oi_i oi_c (by omega) (by omega) (Nat.le_of_ble_eq_true rfl) dX5_init_1 ?_
  refine X_aload_n 0 dX5_init_4 rfl rfl rfl ?_
  refine X_bipush (v := (6 : Int32)) dX5_init_5 (by decide) ?_
  refine X_bipush (v := (6 : Int32)) dX5_init_7 (by decide) ?_
  refine X_multiJ (t := 28) (ti := 20) (ty := .int) (N := 6) (M := 6) (b := (h.1 + 1)) (by decide) cl_X5_9 ac_int (by decide) (by decide) rfl (by decide) (by decide) (by decide) (by decide) (by decide) ⟨by omega, by omega⟩ dX5_init_9 ?_
  refine X_pP true fl_X5_11 (by simp (disch := first | omega | (simp only [pP_1, pI_1, xnew_1, xmulti_1, iX6_1, iX9_1, iX2_1, iX1_1]; omega)) only [pP_K, pI_K, pP_1, pI_1, xnew_1, xmulti_1, xnew_K, xmulti_K, iX6_1, iX6_K, iX9_1, iX9_K, iX2_1, iX2_K, iX1_1, iX1_K, h0]) rfl rfl (fun _ => ⟨rfl, rfl⟩) dX5_init_13 ?_
  refine X_aload_n 0 dX5_init_16 rfl rfl rfl ?_
  refine X_bipush (v := (6 : Int32)) dX5_init_17 (by decide) ?_
  refine X_newaJ (t := 20) (N := 6) (b := (h.1 + 8)) rfl (by decide) (by decide) ac_int (by decide) rfl (by decide) (by decide) ⟨by omega, by omega⟩ dX5_init_19 ?_
  refine X_pP true fl_X5_16 (by simp (disch := first | omega | (simp only [pP_1, pI_1, xnew_1, xmulti_1, iX6_1, iX9_1, iX2_1, iX1_1]; omega)) only [pP_K, pI_K, pP_1, pI_1, xnew_1, xmulti_1, xnew_K, xmulti_K, iX6_1, iX6_K, iX9_1, iX9_K, iX2_1, iX2_K, iX1_1, iX1_K, h0]) rfl rfl (fun _ => ⟨rfl, rfl⟩) dX5_init_21 ?_
  refine X_aload_n 0 dX5_init_24 rfl rfl rfl ?_
  refine X_bipush (v := (6 : Int32)) dX5_init_25 (by decide) ?_
  refine X_newaJ (t := 20) (N := 6) (b := (h.1 + 9)) rfl (by decide) (by decide) ac_int (by decide) rfl (by decide) (by decide) ⟨by omega, by omega⟩ dX5_init_27 ?_
  refine X_pP true fl_X5_20 (by simp (disch := first | omega | (simp only [pP_1, pI_1, xnew_1, xmulti_1, iX6_1, iX9_1, iX2_1, iX1_1]; omega)) only [pP_K, pI_K, pP_1, pI_1, xnew_1, xmulti_1, xnew_K, xmulti_K, iX6_1, iX6_K, iX9_1, iX9_K, iX2_1, iX2_K, iX1_1, iX1_K, h0]) rfl rfl (fun _ => ⟨rfl, rfl⟩) dX5_init_29 ?_
  refine X_aload_n 0 dX5_init_32 rfl rfl rfl ?_
  refine X_bipush (v := (6 : Int32)) dX5_init_33 (by decide) ?_
  refine X_newaJ (t := 20) (N := 6) (b := (h.1 + 10)) rfl (by decide) (by decide) ac_int (by decide) rfl (by decide) (by decide) ⟨by omega, by omega⟩ dX5_init_35 ?_
  refine X_pP true fl_X5_23 (by simp (disch := first | omega | (simp only [pP_1, pI_1, xnew_1, xmulti_1, iX6_1, iX9_1, iX2_1, iX1_1]; omega)) only [pP_K, pI_K, pP_1, pI_1, xnew_1, xmulti_1, xnew_K, xmulti_K, iX6_1, iX6_K, iX9_1, iX9_K, iX2_1, iX2_K, iX1_1, iX1_K, h0]) rfl rfl (fun _ => ⟨rfl, rfl⟩) dX5_init_37 ?_
  exact X_vret dX5_init_40 rfl
def iX4 (h : xH) (a : Nat) (b1 : Nat) : xH := (pP (pP (xnew (pP (xnew (pP (xnew h (20, 400)) a 1 (h.1 + 1)) (20, 12)) a 2 (h.1 + 2)) (20, 12)) a 3 (h.1 + 3)) a 0 b1)
theorem iX4_1 (h : xH) (a : Nat) (b1 : Nat) : (iX4 h a b1).1 = h.1 + 3 := by
  simp only [iX4, pP_1, pI_1, xnew_1, xmulti_1, iX6_1, iX9_1, iX2_1, iX1_1, iX5_1]
theorem iX4_K {h : xH} {a b : Nat} {b1 : Nat} (hb : b ≤ h.1) : (iX4 h a b1).2.1 b = h.2.1 b := by
  unfold iX4
  simp (disch := first | omega | (simp only [pP_1, pI_1, xnew_1, xmulti_1, iX6_1, iX9_1, iX2_1, iX1_1, iX5_1]; omega)) only [pP_K, pI_K, pP_1, pI_1, xnew_1, xmulti_1, xnew_K, xmulti_K, iX6_1, iX6_K, iX9_1, iX9_K, iX2_1, iX2_K, iX1_1, iX1_K, iX5_1, iX5_K]
set_option maxHeartbeats 400000 in
set_option maxRecDepth 100000 in
theorem kX4_init {E : xE} {B : Nat} {h : xH} {a b1 : Nat} (d : Nat) (hd : 1 ≤ d) (ha : a ≤ h.1) (hz : a ≠ 0) (h0 : h.2.1 a = (3, 0)) : MX E B d 3 424 yX4_init cX4_init 2 (none : Option Jvm.ClassFile.FieldType) [.ref a, .ref b1] h (none, iX4 h a b1) := by
  refine MX_of (lv := [(0, .ref a), (1, .ref b1)]) (by decide +kernel) (Nat.le_of_ble_eq_true rfl) rfl ?_
  obtain ⟨d, rfl⟩ : ∃ d0, d = d0 + 1 := ⟨d - 1, by omega⟩
  refine X_aload_n 0 dX4_init_0 rfl rfl rfl ?_
  refine X_objInit ol_X4_3 oi_i oi_c (by omega) (by omega) (Nat.le_of_ble_eq_true rfl) dX4_init_1 ?_
  refine X_aload_n 0 dX4_init_4 rfl rfl rfl ?_
  refine X_sipush (v := (400 : Int32)) dX4_init_5 (by decide) ?_
  refine X_newaJ (t := 20) (N := 400) (b := (h.1 + 1)) rfl (by decide) (by decide) ac_int (by decide) rfl (by decide) (by decide) ⟨by omega, by omega⟩ dX4_init_8 ?_
  refine X_pP true fl_X4_9 (by simp (disch := first | omega | (simp only [pP_1, pI_1, xnew_1, xmulti_1, iX6_1, iX9_1, iX2_1, iX1_1, iX5_1]; omega)) only [pP_K, pI_K, pP_1, pI_1, xnew_1, xmulti_1, xnew_K, xmulti_K, iX6_1, iX6_K, iX9_1, iX9_K, iX2_1, iX2_K, iX1_1, iX1_K, iX5_1, iX5_K, h0]) rfl rfl (fun _ => ⟨rfl, rfl⟩) dX4_init_10 ?_
  refine X_aload_n 0 dX4_init_13 rfl rfl rfl ?_
  refine X_bipush (v := (12 : Int32)) dX4_init_14 (by decide) ?_
  refine X_newaJ (t := 20) (N := 12) (b := (h.1 + 2)) rfl (by decide) (by decide) ac_int (by decide) rfl (by decide) (by decide) ⟨by omega, by omega⟩ dX4_init_16 ?_
  refine X_pP true fl_X4_15 (by simp (disch := first | omega | (simp only [pP_1, pI_1, xnew_1, xmulti_1, iX6_1, iX9_1, iX2_1, iX1_1, iX5_1]; omega)) only [pP_K, pI_K, pP_1, pI_1, xnew_1, xmulti_1, xnew_K, xmulti_K, iX6_1, iX6_K, iX9_1, iX9_K, iX2_1, iX2_K, iX1_1, iX1_K, iX5_1, iX5_K, h0]) rfl rfl (fun _ => ⟨rfl, rfl⟩) dX4_init_18 ?_
  refine X_aload_n 0 dX4_init_21 rfl rfl rfl ?_
  refine X_bipush (v := (12 : Int32)) dX4_init_22 (by decide) ?_
  refine X_newaJ (t := 20) (N := 12) (b := (h.1 + 3)) rfl (by decide) (by decide) ac_int (by decide) rfl (by decide) (by decide) ⟨by omega, by omega⟩ dX4_init_24 ?_
  refine X_pP true fl_X4_18 (by simp (disch := first | omega | (simp only [pP_1, pI_1, xnew_1, xmulti_1, iX6_1, iX9_1, iX2_1, iX1_1, iX5_1]; omega)) only [pP_K, pI_K, pP_1, pI_1, xnew_1, xmulti_1, xnew_K, xmulti_K, iX6_1, iX6_K, iX9_1, iX9_K, iX2_1, iX2_K, iX1_1, iX1_K, iX5_1, iX5_K, h0]) rfl rfl (fun _ => ⟨rfl, rfl⟩) dX4_init_26 ?_
  refine X_aload_n 0 dX4_init_29 rfl rfl rfl ?_
  refine X_aload_n 1 dX4_init_30 rfl rfl rfl ?_
  refine X_pP true fl_X4_21 (by simp (disch := first | omega | (simp only [pP_1, pI_1, xnew_1, xmulti_1, iX6_1, iX9_1, iX2_1, iX1_1, iX5_1]; omega)) only [pP_K, pI_K, pP_1, pI_1, xnew_1, xmulti_1, xnew_K, xmulti_K, iX6_1, iX6_K, iX9_1, iX9_K, iX2_1, iX2_K, iX1_1, iX1_K, iX5_1, iX5_K, h0]) rfl rfl (fun _ => ⟨rfl, rfl⟩) dX4_init_31 ?_
  exact X_vret dX4_init_34 rfl
def iX7 (h : xH) (a : Nat) : xH := (pP (iX6 (xnew (pP (xnew (pP (xnew (pP (xnew (pP (xnew (pP (xnew (pP (xnew (pP (xnew h (20, 4)) a 9 (h.1 + 1)) (20, 4)) a 10 (h.1 + 2)) (20, 4)) a 11 (h.1 + 3)) (20, 16)) a 12 (h.1 + 4)) (20, 4)) a 13 (h.1 + 5)) (20, 5)) a 14 (h.1 + 6)) (20, 5)) a 15 (h.1 + 7)) (5, 0)) (h.1 + 8)) a 16 (h.1 + 8))
theorem iX7_1 (h : xH) (a : Nat) : (iX7 h a).1 = h.1 + 10 := by
  simp only [iX7, pP_1, pI_1, xnew_1, xmulti_1, iX6_1, iX9_1, iX2_1, iX1_1, iX5_1, iX4_1]
theorem iX7_K {h : xH} {a b : Nat} (hb : b ≤ h.1) : (iX7 h a).2.1 b = h.2.1 b := by
  unfold iX7
  simp (disch := first | omega | (simp only [pP_1, pI_1, xnew_1, xmulti_1, iX6_1, iX9_1, iX2_1, iX1_1, iX5_1, iX4_1]; omega)) only [pP_K, pI_K, pP_1, pI_1, xnew_1, xmulti_1, xnew_K, xmulti_K, iX6_1, iX6_K, iX9_1, iX9_K, iX2_1, iX2_K, iX1_1, iX1_K, iX5_1, iX5_K, iX4_1, iX4_K]
set_option maxHeartbeats 400000 in
set_option maxRecDepth 100000 in
theorem kX7_init {E : xE} {B : Nat} {h : xH} {a : Nat} (d : Nat) (hd : 2 ≤ d) (ha : a ≤ h.1) (hz : a ≠ 0) (h0 : h.2.1 a = (6, 0)) : MX E B d 10 66 yX7_init cX7_init 1 (none : Option Jvm.ClassFile.FieldType) [.ref a] h (none, iX7 h a) := by
  refine MX_of (lv := [(0, .ref a)]) (by decide +kernel) (Nat.le_of_ble_eq_true rfl) rfl ?_
  obtain ⟨d, rfl⟩ : ∃ d0, d = d0 + 1 := ⟨d - 1, by omega⟩
  refine X_aload_n 0 dX7_init_0 rfl rfl rfl ?_
  refine X_objInit ol_X7_3 oi_i oi_c (by omega) (by omega) (Nat.le_of_ble_eq_true rfl) dX7_init_1 ?_
  refine X_aload_n 0 dX7_init_4 rfl rfl rfl ?_
  refine X_iconst (v := (4 : Int32)) dX7_init_5 (by decide) ?_
  refine X_newaJ (t := 20) (N := 4) (b := (h.1 + 1)) rfl (by decide) (by decide) ac_int (by decide) rfl (by decide) (by decide) ⟨by omega, by omega⟩ dX7_init_6 ?_
  refine X_pP true fl_X7_9 (by simp (disch := first | omega | (simp only [pP_1, pI_1, xnew_1, xmulti_1, iX6_1, iX9_1, iX2_1, iX1_1, iX5_1, iX4_1]; omega)) only [pP_K, pI_K, pP_1, pI_1, xnew_1, xmulti_1, xnew_K, xmulti_K, iX6_1, iX6_K, iX9_1, iX9_K, iX2_1, iX2_K, iX1_1, iX1_K, iX5_1, iX5_K, iX4_1, iX4_K, h0]) rfl rfl (fun _ => ⟨rfl, rfl⟩) dX7_init_8 ?_
  refine X_aload_n 0 dX7_init_11 rfl rfl rfl ?_
  refine X_iconst (v := (4 : Int32)) dX7_init_12 (by decide) ?_
  refine X_newaJ (t := 20) (N := 4) (b := (h.1 + 2)) rfl (by decide) (by decide) ac_int (by decide) rfl (by decide) (by decide) ⟨by omega, by omega⟩ dX7_init_13 ?_
  refine X_pP true fl_X7_15 (by simp (disch := first | omega | (simp only [pP_1, pI_1, xnew_1, xmulti_1, iX6_1, iX9_1, iX2_1, iX1_1, iX5_1, iX4_1]; omega)) only [pP_K, pI_K, pP_1, pI_1, xnew_1, xmulti_1, xnew_K, xmulti_K, iX6_1, iX6_K, iX9_1, iX9_K, iX2_1, iX2_K, iX1_1, iX1_K, iX5_1, iX5_K, iX4_1, iX4_K, h0]) rfl rfl (fun _ => ⟨rfl, rfl⟩) dX7_init_15 ?_
  refine X_aload_n 0 dX7_init_18 rfl rfl rfl ?_
  refine X_iconst (v := (4 : Int32)) dX7_init_19 (by decide) ?_
  refine X_newaJ (t := 20) (N := 4) (b := (h.1 + 3)) rfl (by decide) (by decide) ac_int (by decide) rfl (by decide) (by decide) ⟨by omega, by omega⟩ dX7_init_20 ?_
  refine X_pP true fl_X7_18 (by simp (disch := first | omega | (simp only [pP_1, pI_1, xnew_1, xmulti_1, iX6_1, iX9_1, iX2_1, iX1_1, iX5_1, iX4_1]; omega)) only [pP_K, pI_K, pP_1, pI_1, xnew_1, xmulti_1, xnew_K, xmulti_K, iX6_1, iX6_K, iX9_1, iX9_K, iX2_1, iX2_K, iX1_1, iX1_K, iX5_1, iX5_K, iX4_1, iX4_K, h0]) rfl rfl (fun _ => ⟨rfl, rfl⟩) dX7_init_22 ?_
  refine X_aload_n 0 dX7_init_25 rfl rfl rfl ?_
  refine X_bipush (v := (16 : Int32)) dX7_init_26 (by decide) ?_
  refine X_newaJ (t := 20) (N := 16) (b := (h.1 + 4)) rfl (by decide) (by decide) ac_int (by decide) rfl (by decide) (by decide) ⟨by omega, by omega⟩ dX7_init_28 ?_
  refine X_pP true fl_X7_21 (by simp (disch := first | omega | (simp only [pP_1, pI_1, xnew_1, xmulti_1, iX6_1, iX9_1, iX2_1, iX1_1, iX5_1, iX4_1]; omega)) only [pP_K, pI_K, pP_1, pI_1, xnew_1, xmulti_1, xnew_K, xmulti_K, iX6_1, iX6_K, iX9_1, iX9_K, iX2_1, iX2_K, iX1_1, iX1_K, iX5_1, iX5_K, iX4_1, iX4_K, h0]) rfl rfl (fun _ => ⟨rfl, rfl⟩) dX7_init_30 ?_
  refine X_aload_n 0 dX7_init_33 rfl rfl rfl ?_
  refine X_iconst (v := (4 : Int32)) dX7_init_34 (by decide) ?_
  refine X_newaJ (t := 20) (N := 4) (b := (h.1 + 5)) rfl (by decide) (by decide) ac_int (by decide) rfl (by decide) (by decide) ⟨by omega, by omega⟩ dX7_init_35 ?_
  refine X_pP true fl_X7_24 (by simp (disch := first | omega | (simp only [pP_1, pI_1, xnew_1, xmulti_1, iX6_1, iX9_1, iX2_1, iX1_1, iX5_1, iX4_1]; omega)) only [pP_K, pI_K, pP_1, pI_1, xnew_1, xmulti_1, xnew_K, xmulti_K, iX6_1, iX6_K, iX9_1, iX9_K, iX2_1, iX2_K, iX1_1, iX1_K, iX5_1, iX5_K, iX4_1, iX4_K, h0]) rfl rfl (fun _ => ⟨rfl, rfl⟩) dX7_init_37 ?_
  refine X_aload_n 0 dX7_init_40 rfl rfl rfl ?_
  refine X_iconst (v := (5 : Int32)) dX7_init_41 (by decide) ?_
  refine X_newaJ (t := 20) (N := 5) (b := (h.1 + 6)) rfl (by decide) (by decide) ac_int (by decide) rfl (by decide) (by decide) ⟨by omega, by omega⟩ dX7_init_42 ?_
  refine X_pP true fl_X7_27 (by simp (disch := first | omega | (simp only [pP_1, pI_1, xnew_1, xmulti_1, iX6_1, iX9_1, iX2_1, iX1_1, iX5_1, iX4_1]; omega)) only [pP_K, pI_K, pP_1, pI_1, xnew_1, xmulti_1, xnew_K, xmulti_K, iX6_1, iX6_K, iX9_1, iX9_K, iX2_1, iX2_K, iX1_1, iX1_K, iX5_1, iX5_K, iX4_1, iX4_K, h0]) rfl rfl (fun _ => ⟨rfl, rfl⟩) dX7_init_44 ?_
  refine X_aload_n 0 dX7_init_47 rfl rfl rfl ?_
  refine X_iconst (v := (5 : Int32)) dX7_init_48 (by decide) ?_
  refine X_newaJ (t := 20) (N := 5) (b := (h.1 + 7)) rfl (by decide) (by decide) ac_int (by decide) rfl (by decide) (by decide) ⟨by omega, by omega⟩ dX7_init_49 ?_
  refine X_pP true fl_X7_30 (by simp (disch := first | omega | (simp only [pP_1, pI_1, xnew_1, xmulti_1, iX6_1, iX9_1, iX2_1, iX1_1, iX5_1, iX4_1]; omega)) only [pP_K, pI_K, pP_1, pI_1, xnew_1, xmulti_1, xnew_K, xmulti_K, iX6_1, iX6_K, iX9_1, iX9_K, iX2_1, iX2_K, iX1_1, iX1_K, iX5_1, iX5_K, iX4_1, iX4_K, h0]) rfl rfl (fun _ => ⟨rfl, rfl⟩) dX7_init_51 ?_
  refine X_aload_n 0 dX7_init_54 rfl rfl rfl ?_
  refine X_newJ (N := 4) (b := (h.1 + 8)) nl_X7_33 rfl rfl ⟨by omega, by omega⟩ dX7_init_55 ?_
  refine X_dup dX7_init_58 rfl ?_
  refine X_callIN (host := "LatestCoat") (kX6_init d (by omega) (by simp only [pP_1, pI_1, xnew_1, xmulti_1, iX6_1, iX9_1, iX2_1, iX1_1, iX5_1, iX4_1]; omega) (by omega) (by first | exact xnew_N _ _ | rfl)) (by decide +kernel) mz_X6_init mc_X6_init (by decide +kernel) (by decide) mi_X6_init rfl (by omega) rfl rfl (Nat.le_refl _) ⟨by omega, by omega⟩ (Nat.le_of_ble_eq_true rfl) dX7_init_59 ?_
  refine X_pP true fl_X7_36 (by simp (disch := first | omega | (simp only [pP_1, pI_1, xnew_1, xmulti_1, iX6_1, iX9_1, iX2_1, iX1_1, iX5_1, iX4_1]; omega)) only [pP_K, pI_K, pP_1, pI_1, xnew_1, xmulti_1, xnew_K, xmulti_K, iX6_1, iX6_K, iX9_1, iX9_K, iX2_1, iX2_K, iX1_1, iX1_K, iX5_1, iX5_K, iX4_1, iX4_K, h0]) rfl rfl (fun _ => ⟨rfl, rfl⟩) dX7_init_62 ?_
  exact X_vret dX7_init_65 rfl
def iX8 (h : xH) (a : Nat) (b1 : Nat) : xH := (pP (pP (iX7 (xnew h (6, 0)) (h.1 + 1)) a 1 (h.1 + 1)) a 0 b1)
theorem iX8_1 (h : xH) (a : Nat) (b1 : Nat) : (iX8 h a b1).1 = h.1 + 11 := by
  simp only [iX8, pP_1, pI_1, xnew_1, xmulti_1, iX6_1, iX9_1, iX2_1, iX1_1, iX5_1, iX4_1, iX7_1]
theorem iX8_K {h : xH} {a b : Nat} {b1 : Nat} (hb : b ≤ h.1) : (iX8 h a b1).2.1 b = h.2.1 b := by
  unfold iX8
  simp (disch := first | omega | (simp only [pP_1, pI_1, xnew_1, xmulti_1, iX6_1, iX9_1, iX2_1, iX1_1, iX5_1, iX4_1, iX7_1]; omega)) only [pP_K, pI_K, pP_1, pI_1, xnew_1, xmulti_1, xnew_K, xmulti_K, iX6_1, iX6_K, iX9_1, iX9_K, iX2_1, iX2_K, iX1_1, iX1_K, iX5_1, iX5_K, iX4_1, iX4_K, iX7_1, iX7_K]
set_option maxHeartbeats 400000 in
set_option maxRecDepth 100000 in
theorem kX8_init {E : xE} {B : Nat} {h : xH} {a b1 : Nat} (d : Nat) (hd : 3 ≤ d) (ha : a ≤ h.1) (hz : a ≠ 0) (h0 : h.2.1 a = (7, 0)) : MX E B d 11 83 yX8_init cX8_init 2 (none : Option Jvm.ClassFile.FieldType) [.ref a, .ref b1] h (none, iX8 h a b1) := by
  refine MX_of (lv := [(0, .ref a), (1, .ref b1)]) (by decide +kernel) (Nat.le_of_ble_eq_true rfl) rfl ?_
  obtain ⟨d, rfl⟩ : ∃ d0, d = d0 + 1 := ⟨d - 1, by omega⟩
  refine X_aload_n 0 dX8_init_0 rfl rfl rfl ?_
  refine X_objInit ol_X8_3 oi_i oi_c (by omega) (by omega) (Nat.le_of_ble_eq_true rfl) dX8_init_1 ?_
  refine X_aload_n 0 dX8_init_4 rfl rfl rfl ?_
  refine X_newJ (N := 17) (b := (h.1 + 1)) nl_X8_9 rfl rfl ⟨by omega, by omega⟩ dX8_init_5 ?_
  refine X_dup dX8_init_8 rfl ?_
  refine X_callIN (host := "LatestCoat") (kX7_init d (by omega) (by simp only [pP_1, pI_1, xnew_1, xmulti_1, iX6_1, iX9_1, iX2_1, iX1_1, iX5_1, iX4_1, iX7_1]; omega) (by omega) (by first | exact xnew_N _ _ | rfl)) (by decide +kernel) mz_X7_init mc_X7_init (by decide +kernel) (by decide) mi_X7_init rfl (by omega) rfl rfl (Nat.le_refl _) ⟨by omega, by omega⟩ (Nat.le_of_ble_eq_true rfl) dX8_init_9 ?_
  refine X_pP true fl_X8_12 (by simp (disch := first | omega | (simp only [pP_1, pI_1, xnew_1, xmulti_1, iX6_1, iX9_1, iX2_1, iX1_1, iX5_1, iX4_1, iX7_1]; omega)) only [pP_K, pI_K, pP_1, pI_1, xnew_1, xmulti_1, xnew_K, xmulti_K, iX6_1, iX6_K, iX9_1, iX9_K, iX2_1, iX2_K, iX1_1, iX1_K, iX5_1, iX5_K, iX4_1, iX4_K, iX7_1, iX7_K, h0]) rfl rfl (fun _ => ⟨rfl, rfl⟩) dX8_init_12 ?_
  refine X_aload_n 0 dX8_init_15 rfl rfl rfl ?_
  refine X_aload_n 1 dX8_init_16 rfl rfl rfl ?_
  refine X_pP true fl_X8_18 (by simp (disch := first | omega | (simp only [pP_1, pI_1, xnew_1, xmulti_1, iX6_1, iX9_1, iX2_1, iX1_1, iX5_1, iX4_1, iX7_1]; omega)) only [pP_K, pI_K, pP_1, pI_1, xnew_1, xmulti_1, xnew_K, xmulti_K, iX6_1, iX6_K, iX9_1, iX9_K, iX2_1, iX2_K, iX1_1, iX1_K, iX5_1, iX5_K, iX4_1, iX4_K, iX7_1, iX7_K, h0]) rfl rfl (fun _ => ⟨rfl, rfl⟩) dX8_init_17 ?_
  exact X_vret dX8_init_20 rfl
def iX3 (h : xH) (a : Nat) (b1 : Nat) (b2 : Nat) (b3 : Nat) : xH := (pP (pP (pP h a 0 b1) a 1 b2) a 2 b3)
theorem iX3_1 (h : xH) (a : Nat) (b1 : Nat) (b2 : Nat) (b3 : Nat) : (iX3 h a b1 b2 b3).1 = h.1 := rfl
theorem iX3_K {h : xH} {a b : Nat} {b1 : Nat} {b2 : Nat} {b3 : Nat} (hb : b ≤ h.1) : (iX3 h a b1 b2 b3).2.1 b = h.2.1 b := by
  unfold iX3
  simp (disch := first | omega | (simp only [pP_1, pI_1, xnew_1, xmulti_1, iX6_1, iX9_1, iX2_1, iX1_1, iX5_1, iX4_1, iX7_1, iX8_1]; omega)) only [pP_K, pI_K, pP_1, pI_1, xnew_1, xmulti_1, xnew_K, xmulti_K, iX6_1, iX6_K, iX9_1, iX9_K, iX2_1, iX2_K, iX1_1, iX1_K, iX5_1, iX5_K, iX4_1, iX4_K, iX7_1, iX7_K, iX8_1, iX8_K]
set_option maxHeartbeats 400000 in
set_option maxRecDepth 100000 in
theorem kX3_init {E : xE} {B : Nat} {h : xH} {a b1 b2 b3 : Nat} (d : Nat) (hd : 1 ≤ d) (ha : a ≤ h.1) (hz : a ≠ 0) (h0 : h.2.1 a = (2, 0)) : MX E B d 0 0 yX3_init cX3_init 4 (none : Option Jvm.ClassFile.FieldType) [.ref a, .ref b1, .ref b2, .ref b3] h (none, iX3 h a b1 b2 b3) := by
  refine MX_of (lv := [(0, .ref a), (1, .ref b1), (2, .ref b2), (3, .ref b3)]) (by decide +kernel) (Nat.le_of_ble_eq_true rfl) rfl ?_
  obtain ⟨d, rfl⟩ : ∃ d0, d = d0 + 1 := ⟨d - 1, by omega⟩
  refine X_aload_n 0 dX3_init_0 rfl rfl rfl ?_
  refine X_objInit ol_X3_1 oi_i oi_c (by omega) (by omega) (Nat.le_of_ble_eq_true rfl) dX3_init_1 ?_
  refine X_aload_n 0 dX3_init_4 rfl rfl rfl ?_
  refine X_aload_n 1 dX3_init_5 rfl rfl rfl ?_
  refine X_pP true fl_X3_7 (by simp (disch := first | omega | (simp only [pP_1, pI_1, xnew_1, xmulti_1, iX6_1, iX9_1, iX2_1, iX1_1, iX5_1, iX4_1, iX7_1, iX8_1]; omega)) only [pP_K, pI_K, pP_1, pI_1, xnew_1, xmulti_1, xnew_K, xmulti_K, iX6_1, iX6_K, iX9_1, iX9_K, iX2_1, iX2_K, iX1_1, iX1_K, iX5_1, iX5_K, iX4_1, iX4_K, iX7_1, iX7_K, iX8_1, iX8_K, h0]) rfl rfl (fun _ => ⟨rfl, rfl⟩) dX3_init_6 ?_
  refine X_aload_n 0 dX3_init_9 rfl rfl rfl ?_
  refine X_aload_n 2 dX3_init_10 rfl rfl rfl ?_
  refine X_pP true fl_X3_13 (by simp (disch := first | omega | (simp only [pP_1, pI_1, xnew_1, xmulti_1, iX6_1, iX9_1, iX2_1, iX1_1, iX5_1, iX4_1, iX7_1, iX8_1]; omega)) only [pP_K, pI_K, pP_1, pI_1, xnew_1, xmulti_1, xnew_K, xmulti_K, iX6_1, iX6_K, iX9_1, iX9_K, iX2_1, iX2_K, iX1_1, iX1_K, iX5_1, iX5_K, iX4_1, iX4_K, iX7_1, iX7_K, iX8_1, iX8_K, h0]) rfl rfl (fun _ => ⟨rfl, rfl⟩) dX3_init_11 ?_
  refine X_aload_n 0 dX3_init_14 rfl rfl rfl ?_
  refine X_aload_n 3 dX3_init_15 rfl rfl rfl ?_
  refine X_pP true fl_X3_16 (by simp (disch := first | omega | (simp only [pP_1, pI_1, xnew_1, xmulti_1, iX6_1, iX9_1, iX2_1, iX1_1, iX5_1, iX4_1, iX7_1, iX8_1]; omega)) only [pP_K, pI_K, pP_1, pI_1, xnew_1, xmulti_1, xnew_K, xmulti_K, iX6_1, iX6_K, iX9_1, iX9_K, iX2_1, iX2_K, iX1_1, iX1_K, iX5_1, iX5_K, iX4_1, iX4_K, iX7_1, iX7_K, iX8_1, iX8_K, h0]) rfl rfl (fun _ => ⟨rfl, rfl⟩) dX3_init_16 ?_
  exact X_vret dX3_init_19 rfl
def wloop (kp : Nat) : Nat → xH → xH
  | 0, h => h
  | j + 1, h => pP (iX6 (xnew (wloop kp j h) (5, 0)) ((wloop kp j h).1 + 1)) kp j ((wloop kp j h).1 + 1)
theorem wloop_1 (kp : Nat) : ∀ (j : Nat) (h : xH), (wloop kp j h).1 = h.1 + 3 * j
  | 0, h => rfl
  | j + 1, h => by
    rw [wloop, pP_1, iX6_1, xnew_1, wloop_1 kp j h]
    omega
theorem wloop_K {kp b : Nat} : ∀ (j : Nat) {h : xH}, b ≤ h.1 → (wloop kp j h).2.1 b = h.2.1 b
  | 0, h, _ => rfl
  | j + 1, h, hb => by
    rw [wloop, pP_K, iX6_K (by rw [xnew_1, wloop_1]; omega), xnew_K (by rw [wloop_1]; omega), wloop_K j hb]
theorem iX6_P {h : xH} {a b k : Nat} (h1 : b ≠ a) (h2 : b ≤ h.1) : (iX6 h a).2.2.1 b k = h.2.2.1 b k := by
  simp only [iX6, pP, xnew]
  rw [xu_ne h1, xz_ne (by omega), xu_ne h1, xz_ne (by omega)]
theorem wloop_P {kp b : Nat} (h1 : b ≠ kp) : ∀ (j : Nat) {h : xH} {k : Nat}, b ≤ h.1 → (wloop kp j h).2.2.1 b k = h.2.2.1 b k
  | 0, h, k, _ => rfl
  | j + 1, h, k, hb => by
    have e1 : b ≤ (wloop kp j h).1 := by rw [wloop_1]; omega
    rw [wloop]
    show xu (iX6 (xnew (wloop kp j h) (5, 0)) ((wloop kp j h).1 + 1)).2.2.1 kp j ((wloop kp j h).1 + 1) b k = _
    rw [xu_ne h1, iX6_P (by omega) (by rw [xnew_1]; omega)]
    show xz (wloop kp j h).2.2.1 ((wloop kp j h).1 + 1) 0 b k = _
    rw [xz_ne (by omega), wloop_P h1 j hb]
set_option maxHeartbeats 1000000 in
set_option maxRecDepth 100000 in
theorem kX10_init_66 {E : xE} {B d : Nat} {h : xH} {a kp : Nat} (hd : 2 ≤ d) (ha : a ≤ h.1) (hz : a ≠ 0) (h0 : h.2.1 a = (9, 0)) (hk : h.2.1 kp = (24, 20)) (hkl : kp ≤ h.1) (hne : a ≠ kp) (hp : h.2.2.1 a 2 = kp) : ∀ (m j : Nat), j + m = 20 → X E B d 78 637 yX10_init cX10_init 2 none (none, wloop kp 20 h) 66 [(1, .int (nI j)), (0, .ref a)] [] (18 + 3 * j) (157 + 24 * j) (wloop kp j h) := by
  obtain ⟨d, rfl⟩ : ∃ d0, d = d0 + 1 := ⟨d - 1, by omega⟩
  intro m
  induction m with
  | zero =>
    intro j hj
    have hj2 : j = 20 := by omega
    subst hj2
    refine X_iload_n 0 dX10_init_66 rfl rfl ?_
    refine X_bipush (v := (20 : Int32)) dX10_init_67 (by decide) ?_
    refine X_icmp_ge (tgt := 91) dX10_init_69 (by decide) (fun c => ?_) (fun c => absurd (by decide) c)
    exact X_vret dX10_init_91 rfl
  | succ m ih =>
    intro j hj
    have hj2 : j < 20 := by omega
    have eK : (wloop kp j h).2.1 a = (9, 0) := by rw [wloop_K j ha]; exact h0
    have eP : (wloop kp j h).2.2.1 a 2 = kp := by rw [wloop_P hne j ha]; exact hp
    have eA : (wloop kp j h).2.1 kp = (24, 20) := by rw [wloop_K j hkl]; exact hk
    have eL : (wloop kp j h).1 = h.1 + 3 * j := wloop_1 kp j h
    have eJ : ix (nI j) = j := nI_clamp (by omega)
    refine X_iload_n 0 dX10_init_66 rfl rfl ?_
    refine X_bipush (v := (20 : Int32)) dX10_init_67 (by decide) ?_
    refine X_icmp_ge (tgt := 91) dX10_init_69 (by decide) (fun c => absurd c (nI_ge hj2 (by decide))) (fun c => ?_)
    refine X_aload_n 1 dX10_init_72 rfl rfl rfl ?_
    refine X_getPe fl_X10_25 eK rfl eP dX10_init_73 ?_
    refine X_iload_n 0 dX10_init_76 rfl rfl ?_
    refine X_newJ (N := 4) (b := (wloop kp j h).1 + 1) nl_X10_18 rfl rfl ⟨by omega, by omega⟩ dX10_init_77 ?_
    refine X_dup dX10_init_80 rfl ?_
    refine X_callIN (host := "LatestCoat") (kX6_init d (by omega) (by rw [xnew_1]; exact Nat.le_refl _) (by omega) (xnew_N _ _)) (by decide +kernel) mz_X6_init mc_X6_init (by decide +kernel) (by decide) mi_X6_init rfl (by omega) rfl rfl (Nat.le_refl _) ⟨by omega, by omega⟩ (Nat.le_of_ble_eq_true rfl) dX10_init_81 ?_
    refine X_aastP (n := 20) (t := 24) (ci := 5) ?_ (by decide) (by decide) cf_5 rfl ?_ ?_ dX10_init_84 ?_
    · rw [iX6_K (by rw [xnew_1]; omega), xnew_K (by omega)]; exact eA
    · rw [iX6_K (by rw [xnew_1]; exact Nat.le_refl _)]; exact xnew_N _ _
    · have := vp_in_nI (n := j) (N := 20) hj2 (by decide)
      rw [vp_in_iff] at this
      simp only [inb, Bool.and_eq_true, decide_eq_true_eq]
      exact this
    rw [eJ]
    refine X_iinc (lv' := [(1, .int (nI (j + 1))), (0, .ref a)]) 0 dX10_init_85 rfl (nI_1 j) (by decide) rfl ?_
    refine X_goto (tgt := 66) dX10_init_88 (by decide) ?_
    have := ih (j + 1) (by omega)
    rw [show 18 + 3 * (j + 1) = 18 + 3 * j + 1 + 2 by omega, show 157 + 24 * (j + 1) = 157 + 24 * j + 4 + 20 by omega] at this
    exact this
def iX10a (h : xH) (a : Nat) : xH := (pI (pP (xnew (pP (xnew (pP (xnew (pP (xnew (pP (iX6 (xnew (pP (iX7 (xnew h (6, 0)) (h.1 + 1)) a 0 (h.1 + 1)) (5, 0)) (h.1 + 12)) a 1 (h.1 + 12)) (24, 20)) a 2 (h.1 + 15)) (20, 10)) a 4 (h.1 + 16)) (20, 10)) a 5 (h.1 + 17)) (20, 10)) a 6 (h.1 + 18)) a 9 (-1 : Int32))
def iX10 (h : xH) (a : Nat) : xH := wloop (h.1 + 15) 20 (iX10a h a)
theorem iX10a_1 (h : xH) (a : Nat) : (iX10a h a).1 = h.1 + 18 := by
  simp only [iX10a, pP_1, pI_1, xnew_1, xmulti_1, iX6_1, iX9_1, iX2_1, iX1_1, iX5_1, iX4_1, iX7_1, iX8_1, iX3_1]
theorem iX10a_K {h : xH} {a b : Nat} (hb : b ≤ h.1) : (iX10a h a).2.1 b = h.2.1 b := by
  unfold iX10a
  simp (disch := first | omega | (simp only [pP_1, pI_1, xnew_1, xmulti_1, iX6_1, iX9_1, iX2_1, iX1_1, iX5_1, iX4_1, iX7_1, iX8_1, iX3_1]; omega)) only [pP_K, pI_K, pP_1, pI_1, xnew_1, xmulti_1, xnew_K, xmulti_K, iX6_1, iX6_K, iX9_1, iX9_K, iX2_1, iX2_K, iX1_1, iX1_K, iX5_1, iX5_K, iX4_1, iX4_K, iX7_1, iX7_K, iX8_1, iX8_K, iX3_1, iX3_K]
theorem iX10_1 (h : xH) (a : Nat) : (iX10 h a).1 = h.1 + 78 := by
  rw [iX10, wloop_1, iX10a_1]
theorem iX10_K {h : xH} {a b : Nat} (hb : b ≤ h.1) : (iX10 h a).2.1 b = h.2.1 b := by
  rw [iX10, wloop_K 20 (by rw [iX10a_1]; omega), iX10a_K hb]
theorem iX10a_kept {h : xH} {a : Nat} (ha : a ≤ h.1) : (iX10a h a).2.1 (h.1 + 15) = (24, 20) ∧ (iX10a h a).2.2.1 a 2 = h.1 + 15 := by
  refine ⟨?_, ?_⟩
  · simp [iX10a, pP, pI, xnew, xk, iX7_1, iX6_1]
  · have n1 : a ≠ h.1 + 16 := by omega
    have n2 : a ≠ h.1 + 17 := by omega
    have n3 : a ≠ h.1 + 18 := by omega
    simp [iX10a, pP, pI, xnew, xu, xz, iX7_1, iX6_1, n1, n2, n3]
set_option maxHeartbeats 400000 in
set_option maxRecDepth 100000 in
theorem kX10_init {E : xE} {B : Nat} {h : xH} {a : Nat} (d : Nat) (hd : 3 ≤ d) (ha : a ≤ h.1) (hz : a ≠ 0) (h0 : h.2.1 a = (9, 0)) : MX E B d 78 637 yX10_init cX10_init 2 none [.ref a] h (none, iX10 h a) := by
  refine MX_of (lv := [(0, .ref a)]) (by decide +kernel) (Nat.le_of_ble_eq_true rfl) rfl ?_
  obtain ⟨d, rfl⟩ : ∃ d0, d = d0 + 1 := ⟨d - 1, by omega⟩
  refine X_aload_n 0 dX10_init_0 rfl rfl rfl ?_
  refine X_objInit ol_X10_3 oi_i oi_c (by omega) (by omega) (Nat.le_of_ble_eq_true rfl) dX10_init_1 ?_
  refine X_aload_n 0 dX10_init_4 rfl rfl rfl ?_
  refine X_newJ (N := 17) (b := (h.1 + 1)) nl_X10_9 rfl rfl ⟨by omega, by omega⟩ dX10_init_5 ?_
  refine X_dup dX10_init_8 rfl ?_
  refine X_callIN (host := "LatestCoat") (kX7_init d (by omega) (by simp only [pP_1, pI_1, xnew_1, xmulti_1, iX6_1, iX9_1, iX2_1, iX1_1, iX5_1, iX4_1, iX7_1, iX8_1, iX3_1]; omega) (by omega) (by first | exact xnew_N _ _ | rfl)) (by decide +kernel) mz_X7_init mc_X7_init (by decide +kernel) (by decide) mi_X7_init rfl (by omega) rfl rfl (Nat.le_refl _) ⟨by omega, by omega⟩ (Nat.le_of_ble_eq_true rfl) dX10_init_9 ?_
  refine X_pP false fl_X10_12 (by simp (disch := first | omega | (simp only [pP_1, pI_1, xnew_1, xmulti_1, iX6_1, iX9_1, iX2_1, iX1_1, iX5_1, iX4_1, iX7_1, iX8_1, iX3_1]; omega)) only [pP_K, pI_K, pP_1, pI_1, xnew_1, xmulti_1, xnew_K, xmulti_K, iX6_1, iX6_K, iX9_1, iX9_K, iX2_1, iX2_K, iX1_1, iX1_K, iX5_1, iX5_K, iX4_1, iX4_K, iX7_1, iX7_K, iX8_1, iX8_K, iX3_1, iX3_K, h0]) rfl rfl (fun h => by cases h) dX10_init_12 ?_
  refine X_aload_n 0 dX10_init_15 rfl rfl rfl ?_
  refine X_newJ (N := 4) (b := (h.1 + 12)) nl_X10_18 rfl rfl ⟨by omega, by omega⟩ dX10_init_16 ?_
  refine X_dup dX10_init_19 rfl ?_
  refine X_callIN (host := "LatestCoat") (kX6_init d (by omega) (by simp only [pP_1, pI_1, xnew_1, xmulti_1, iX6_1, iX9_1, iX2_1, iX1_1, iX5_1, iX4_1, iX7_1, iX8_1, iX3_1]; omega) (by omega) (by first | exact xnew_N _ _ | rfl)) (by decide +kernel) mz_X6_init mc_X6_init (by decide +kernel) (by decide) mi_X6_init rfl (by omega) rfl rfl (Nat.le_refl _) ⟨by omega, by omega⟩ (Nat.le_of_ble_eq_true rfl) dX10_init_20 ?_
  refine X_pP true fl_X10_21 (by simp (disch := first | omega | (simp only [pP_1, pI_1, xnew_1, xmulti_1, iX6_1, iX9_1, iX2_1, iX1_1, iX5_1, iX4_1, iX7_1, iX8_1, iX3_1]; omega)) only [pP_K, pI_K, pP_1, pI_1, xnew_1, xmulti_1, xnew_K, xmulti_K, iX6_1, iX6_K, iX9_1, iX9_K, iX2_1, iX2_K, iX1_1, iX1_K, iX5_1, iX5_K, iX4_1, iX4_K, iX7_1, iX7_K, iX8_1, iX8_K, iX3_1, iX3_K, h0]) rfl rfl (fun _ => ⟨rfl, rfl⟩) dX10_init_23 ?_
  refine X_aload_n 0 dX10_init_26 rfl rfl rfl ?_
  refine X_bipush (v := (20 : Int32)) dX10_init_27 (by decide) ?_
  refine X_anewJ (t := 24) (ci := 5) (N := 20) (b := (h.1 + 15)) (by decide) (by decide) cl_X10_18 rfl (fun U hU => ao_State hU) (by decide) rfl (by decide) (by decide) ⟨by omega, by omega⟩ dX10_init_29 ?_
  refine X_pP true fl_X10_25 (by simp (disch := first | omega | (simp only [pP_1, pI_1, xnew_1, xmulti_1, iX6_1, iX9_1, iX2_1, iX1_1, iX5_1, iX4_1, iX7_1, iX8_1, iX3_1]; omega)) only [pP_K, pI_K, pP_1, pI_1, xnew_1, xmulti_1, xnew_K, xmulti_K, iX6_1, iX6_K, iX9_1, iX9_K, iX2_1, iX2_K, iX1_1, iX1_K, iX5_1, iX5_K, iX4_1, iX4_K, iX7_1, iX7_K, iX8_1, iX8_K, iX3_1, iX3_K, h0]) rfl rfl (fun _ => ⟨rfl, rfl⟩) dX10_init_32 ?_
  refine X_aload_n 0 dX10_init_35 rfl rfl rfl ?_
  refine X_bipush (v := (10 : Int32)) dX10_init_36 (by decide) ?_
  refine X_newaJ (t := 20) (N := 10) (b := (h.1 + 16)) rfl (by decide) (by decide) ac_int (by decide) rfl (by decide) (by decide) ⟨by omega, by omega⟩ dX10_init_38 ?_
  refine X_pP true fl_X10_29 (by simp (disch := first | omega | (simp only [pP_1, pI_1, xnew_1, xmulti_1, iX6_1, iX9_1, iX2_1, iX1_1, iX5_1, iX4_1, iX7_1, iX8_1, iX3_1]; omega)) only [pP_K, pI_K, pP_1, pI_1, xnew_1, xmulti_1, xnew_K, xmulti_K, iX6_1, iX6_K, iX9_1, iX9_K, iX2_1, iX2_K, iX1_1, iX1_K, iX5_1, iX5_K, iX4_1, iX4_K, iX7_1, iX7_K, iX8_1, iX8_K, iX3_1, iX3_K, h0]) rfl rfl (fun _ => ⟨rfl, rfl⟩) dX10_init_40 ?_
  refine X_aload_n 0 dX10_init_43 rfl rfl rfl ?_
  refine X_bipush (v := (10 : Int32)) dX10_init_44 (by decide) ?_
  refine X_newaJ (t := 20) (N := 10) (b := (h.1 + 17)) rfl (by decide) (by decide) ac_int (by decide) rfl (by decide) (by decide) ⟨by omega, by omega⟩ dX10_init_46 ?_
  refine X_pP true fl_X10_33 (by simp (disch := first | omega | (simp only [pP_1, pI_1, xnew_1, xmulti_1, iX6_1, iX9_1, iX2_1, iX1_1, iX5_1, iX4_1, iX7_1, iX8_1, iX3_1]; omega)) only [pP_K, pI_K, pP_1, pI_1, xnew_1, xmulti_1, xnew_K, xmulti_K, iX6_1, iX6_K, iX9_1, iX9_K, iX2_1, iX2_K, iX1_1, iX1_K, iX5_1, iX5_K, iX4_1, iX4_K, iX7_1, iX7_K, iX8_1, iX8_K, iX3_1, iX3_K, h0]) rfl rfl (fun _ => ⟨rfl, rfl⟩) dX10_init_48 ?_
  refine X_aload_n 0 dX10_init_51 rfl rfl rfl ?_
  refine X_bipush (v := (10 : Int32)) dX10_init_52 (by decide) ?_
  refine X_newaJ (t := 20) (N := 10) (b := (h.1 + 18)) rfl (by decide) (by decide) ac_int (by decide) rfl (by decide) (by decide) ⟨by omega, by omega⟩ dX10_init_54 ?_
  refine X_pP true fl_X10_36 (by simp (disch := first | omega | (simp only [pP_1, pI_1, xnew_1, xmulti_1, iX6_1, iX9_1, iX2_1, iX1_1, iX5_1, iX4_1, iX7_1, iX8_1, iX3_1]; omega)) only [pP_K, pI_K, pP_1, pI_1, xnew_1, xmulti_1, xnew_K, xmulti_K, iX6_1, iX6_K, iX9_1, iX9_K, iX2_1, iX2_K, iX1_1, iX1_K, iX5_1, iX5_K, iX4_1, iX4_K, iX7_1, iX7_K, iX8_1, iX8_K, iX3_1, iX3_K, h0]) rfl rfl (fun _ => ⟨rfl, rfl⟩) dX10_init_56 ?_
  refine X_aload_n 0 dX10_init_59 rfl rfl rfl ?_
  refine X_iconst (v := (-1 : Int32)) dX10_init_60 (by decide) ?_
  refine X_pI fl_X10_39 (by simp (disch := first | omega | (simp only [pP_1, pI_1, xnew_1, xmulti_1, iX6_1, iX9_1, iX2_1, iX1_1, iX5_1, iX4_1, iX7_1, iX8_1, iX3_1]; omega)) only [pP_K, pI_K, pP_1, pI_1, xnew_1, xmulti_1, xnew_K, xmulti_K, iX6_1, iX6_K, iX9_1, iX9_K, iX2_1, iX2_K, iX1_1, iX1_K, iX5_1, iX5_K, iX4_1, iX4_K, iX7_1, iX7_K, iX8_1, iX8_K, iX3_1, iX3_K, h0]) rfl rfl dX10_init_61 ?_
  refine X_iconst (v := (0 : Int32)) dX10_init_64 (by decide) ?_
  refine X_istore_n (lv' := [(1, .int (0 : Int32)), (0, .ref a)]) dX10_init_65 rfl (by decide) rfl ?_
  have hk := iX10a_kept (h := h) (a := a) ha
  exact kX10_init_66 (h := iX10a h a) (kp := h.1 + 15) (by omega) (by rw [iX10a_1]; omega) hz (by rw [iX10a_K ha]; exact h0) hk.1 (by rw [iX10a_1]; omega) (by omega) hk.2 20 0 rfl

/-! rule(), street(), image(): the methods that make cells. -/
def xI (h : xH) (I : Nat → Nat → Int32) : xH := (h.1, h.2.1, h.2.2.1, I, h.2.2.2.2)
def mX11_rule (h : xH) : Option (Int32 × xH) :=
  if h.2.2.2.1 1 5 < (6 : Int32) then
    Option.bind (mX11_takeTape h.2.2.2.1) (fun q1 => Option.bind (mX4_readAll q1) (fun q2 =>
      if q2.1 = 0 then some ((-2 : Int32) - q2.2 3 5, xI h q2.2)
      else if inb (q2.2 1 5) 6 = true then if inb (q2.2 7 4) 401 = true then if inb (q2.2 7 5) 13 = true then
        some ((xu (hRu (xI h q2.2) (ix (q2.2 7 4)) (ix (q2.2 7 5))).2.2.2.1 1 5 (q2.2 1 5 + 1)) 1 5 - 1, pI (pP (hRu (xI h q2.2) (ix (q2.2 7 4)) (ix (q2.2 7 5))) 11 (ix (q2.2 1 5)) (h.1 + 1)) 1 5 (q2.2 1 5 + 1))
      else none else none else none))
  else some (-1, h)
theorem inb_nI {i : Int32} {n : Nat} (h : inb i n = true) : i = nI (ix i) := by
  simp only [inb, Bool.and_eq_true, decide_eq_true_eq] at h
  have e := (x_nn h.1).2
  show i = Int32.ofNat (ix i)
  apply Int32.toInt_inj.mp
  have h31 : (ix i) < 2 ^ 31 := by
    have := i.toInt_lt
    omega
  have := nI_toInt h31
  unfold nI at this
  rw [this]
  exact e
set_option maxHeartbeats 1000000 in
set_option maxRecDepth 100000 in
theorem kX11_rule {E : xE} {B : Nat} {h : xH} {q : Int32 × xH} (d : Nat) (hd : 80 ≤ d) (G : GW h.2.1 h.2.2.1) (Fh : Fr h) (hm : mX11_rule h = some q) : MX E B d 4 427 yX11_rule cX11_rule 1 (some .int) [.ref 1] h (some (.int q.1), q.2) := by
  refine MX_of (lv := [(0, .ref 1)]) (by decide +kernel) (Nat.le_of_ble_eq_true rfl) rfl ?_
  obtain ⟨d, rfl⟩ : ∃ d0, d = d0 + 1 := ⟨d - 1, by omega⟩
  obtain ⟨n, K, P, I, L⟩ := h
  unfold mX11_rule at hm
  refine X_aload_n 0 dX11_rule_0 rfl rfl rfl ?_
  refine X_getI fl_X11_88 (g_K1 G) rfl dX11_rule_1 ?_
  refine X_bipush (v := (6 : Int32)) dX11_rule_4 (by decide) ?_
  refine X_icmp_lt (tgt := 11) dX11_rule_6 (by decide) (fun c1 => ?_) (fun c1 => ?_)
  · replace hm := ip c1 hm
    obtain ⟨q1, e1, hm⟩ := ob hm
    obtain ⟨q2, e2, hm⟩ := ob hm
    refine X_aload_n 0 dX11_rule_11 rfl rfl rfl ?_
    refine X_cV0 (ci := 10) (kX11_takeTape d (by omega) G e1) ml_X11_95 mi_X11_takeTape rfl cf_10 (g_K1 G) rfl rfl (Nat.le_refl _) ⟨by omega, by omega⟩ (Nat.le_of_ble_eq_true rfl) dX11_rule_12 ?_
    refine X_aload_n 0 dX11_rule_15 rfl rfl rfl ?_
    refine X_getPe (b := 7) fl_X11_25 (g_K1 G) rfl (g_P1_3 G) dX11_rule_16 ?_
    refine X_cV1 (ci := 3) (kX4_readAll d (by omega) G e2) ml_X11_124 mi_X4_readAll rfl cf_3 (g_K7 G) rfl rfl (Nat.le_refl _) ⟨by omega, by omega⟩ (Nat.le_of_ble_eq_true rfl) dX11_rule_19 ?_
    refine X_if_ne (tgt := 36) dX11_rule_22 (by decide) (fun c2 => ?_) (fun c2 => ?_)
    · replace hm := iq c2 hm
      obtain ⟨g1, hm⟩ := og hm
      obtain ⟨g2, hm⟩ := og hm
      obtain ⟨g3, hm⟩ := og hm
      replace hm := Option.some.inj hm
      subst hm
      have lt4 := inb_lt g2
      have lt5 := inb_lt g3
      have F2 : Fr (n, K, P, q2.2, L) := Fh
      have l1 : 1 ≤ n := Fr_le (h := (n, K, P, q2.2, L)) F2 (g_K1 G) (by decide)
      have l11 : 11 ≤ n := Fr_le (h := (n, K, P, q2.2, L)) F2 (g_K11 G) (by decide)
      refine X_aload_n 0 dX11_rule_36 rfl rfl rfl ?_
      refine X_getPe (b := 11) fl_X11_31 (g_K1 G) rfl (g_P1_4 G) dX11_rule_37 ?_
      refine X_aload_n 0 dX11_rule_40 rfl rfl rfl ?_
      refine X_getI fl_X11_88 (g_K1 G) rfl dX11_rule_41 ?_
      refine X_aload_n 0 dX11_rule_44 rfl rfl rfl ?_
      refine X_getPe (b := 7) fl_X11_25 (g_K1 G) rfl (g_P1_3 G) dX11_rule_45 ?_
      refine X_callV (ci := 3) (v := some (.ref (n + 1))) (kX4_made (h := (n, K, P, q2.2, L)) (s := ix (q2.2 7 4)) (c := ix (q2.2 7 5)) d (by omega) G F2 (inb_nI g2) (by omega) (inb_nI g3) (by omega)) ml_X11_125 mi_X4_made rfl cf_3 (g_K7 G) rfl rfl (Nat.le_refl _) ⟨by omega, by omega⟩ (Nat.le_of_ble_eq_true rfl) dX11_rule_48 ?_
      generalize hg : hRu (n, K, P, q2.2, L) (ix (q2.2 7 4)) (ix (q2.2 7 5)) = hh
      have gK : ∀ b, b ≤ n → hh.2.1 b = K b := fun b hb => by rw [← hg]; exact hRu_K hb
      have gI : ∀ b, b ≤ n → hh.2.2.2.1 b = q2.2 b := fun b hb => by rw [← hg]; exact hRu_I hb
      have gr : hh.2.1 (n + 1) = (2, 0) := by rw [← hg]; exact (hR3_at (n, K, P, q2.2, L) _ _).1
      refine X_aastP (n := 6) (t := 25) (ci := 2) (by rw [gK 11 l11]; exact g_K11 G) (by decide) (by decide) cf_2 rfl gr g1 dX11_rule_51 ?_
      have k1 : (pP hh 11 (ix (q2.2 1 5)) (n + 1)).2.1 1 = (10, 0) := by rw [pP_K, gK 1 l1]; exact g_K1 G
      refine X_aload_n 0 dX11_rule_52 rfl rfl rfl ?_
      refine X_dup dX11_rule_53 rfl ?_
      refine X_getI fl_X11_88 k1 rfl dX11_rule_54 ?_
      rw [show (pP hh 11 (ix (q2.2 1 5)) (n + 1)).2.2.2.1 1 5 = q2.2 1 5 by show hh.2.2.2.1 1 5 = _; rw [gI 1 l1]]
      refine X_iconst (v := (1 : Int32)) dX11_rule_57 (by decide) ?_
      refine X_iadd dX11_rule_58 ?_
      refine X_pI fl_X11_88 k1 rfl rfl dX11_rule_59 ?_
      refine X_aload_n 0 dX11_rule_62 rfl rfl rfl ?_
      refine X_getI fl_X11_88 k1 rfl dX11_rule_63 ?_
      refine X_iconst (v := (1 : Int32)) dX11_rule_66 (by decide) ?_
      refine X_isub dX11_rule_67 ?_
      refine X_widen (u2 := 4) (w2 := 427) (by omega) (by omega) ?_
      have hg2 : hRu (xI (n, K, P, I, L) q2.2) (ix (q2.2 7 4)) (ix (q2.2 7 5)) = hh := hg
      rw [hg2]
      exact X_iret dX11_rule_68 rfl
    · replace hm := ip c2 hm
      replace hm := Option.some.inj hm
      subst hm
      refine X_bipush (v := (-2 : Int32)) dX11_rule_25 (by decide) ?_
      refine X_aload_n 0 dX11_rule_27 rfl rfl rfl ?_
      refine X_getPe (b := 3) fl_X11_16 (g_K1 G) rfl (g_P1_2 G) dX11_rule_28 ?_
      refine X_getI fl_X11_105 (g_K3 G) rfl dX11_rule_31 ?_
      refine X_isub dX11_rule_34 ?_
      refine X_widen (u2 := 4) (w2 := 427) (by omega) (by omega) ?_
      exact X_iret dX11_rule_35 rfl
  · replace hm := iq c1 hm
    replace hm := Option.some.inj hm
    subst hm
    refine X_iconst (v := (-1 : Int32)) dX11_rule_9 (by decide) ?_
    refine X_widen (u2 := 4) (w2 := 427) (by omega) (by omega) ?_
    exact X_iret dX11_rule_10 rfl
def mX11_street (h : xH) : Option (Int32 × xH) :=
  Option.bind (mX11_takeTape h.2.2.2.1) (fun q1 => Option.bind (mX8_readAll (hRd (xI h q1)).2.2.2.1 (hRd (xI h q1)).2.2.2.2 (h.1 + 1)) (fun q2 =>
    if q2.1 = 0 then some ((-2 : Int32) - q2.2.1 3 5, ((hRd (xI h q1)).1, (hRd (xI h q1)).2.1, (hRd (xI h q1)).2.2.1, q2.2.1, q2.2.2))
    else Option.bind (mX10_begin (hRd (xI h q1)).2.2.1 q2.2.1 q2.2.2 (h.1 + 2)) (fun q3 => some (q3.2.1 (q3.1 12 0) 6, ((hRd (xI h q1)).1, (hRd (xI h q1)).2.1, q3.1, q3.2.1, q3.2.2)))))
set_option maxHeartbeats 1000000 in
set_option maxRecDepth 100000 in
theorem kX11_street {E : xE} {B : Nat} {h : xH} {q : Int32 × xH} (d : Nat) (hd : 11 ≤ d) (G : GW h.2.1 h.2.2.1) (Fh : Fr h) (hm : mX11_street h = some q) : MX E B d 12 85 yX11_street cX11_street 2 (some .int) [.ref 1] h (some (.int q.1), q.2) := by
  refine MX_of (lv := [(0, .ref 1)]) (by decide +kernel) (Nat.le_of_ble_eq_true rfl) rfl ?_
  obtain ⟨d, rfl⟩ : ∃ d0, d = d0 + 1 := ⟨d - 1, by omega⟩
  obtain ⟨n, K, P, I, L⟩ := h
  unfold mX11_street at hm
  obtain ⟨q1, e1, hm⟩ := ob hm
  obtain ⟨q2, e2, hm⟩ := ob hm
  have F2 : Fr (n, K, P, q1, L) := Fh
  have l1 : 1 ≤ n := Fr_le (h := (n, K, P, q1, L)) F2 (g_K1 G) (by decide)
  refine X_aload_n 0 dX11_street_0 rfl rfl rfl ?_
  refine X_cV0 (ci := 10) (kX11_takeTape d (by omega) G e1) ml_X11_95 mi_X11_takeTape rfl cf_10 (g_K1 G) rfl rfl (Nat.le_refl _) ⟨by omega, by omega⟩ (Nat.le_of_ble_eq_true rfl) dX11_street_1 ?_
  refine X_newJ (N := 2) (b := n + 1) nl_X11_98 rfl rfl ⟨by omega, by omega⟩ dX11_street_4 ?_
  refine X_dup dX11_street_7 rfl ?_
  refine X_aload_n 0 dX11_street_8 rfl rfl rfl ?_
  refine X_getPe (b := 3) (z := 0) fl_X11_16 (by rw [xnew_K l1]; exact g_K1 G) rfl (by rw [xnew_Pr l1]; exact g_P1_2 G) dX11_street_9 ?_
  refine X_callI (a := n + 1) (kX8_init (h := xnew (n, K, P, q1, L) (7, 0)) (a := n + 1) (b1 := 3) d (by omega) (by rw [xnew_1]; exact Nat.le_refl _) (by omega) (xnew_N _ _)) ml_X11_100 mi_X8_init rfl (by omega) rfl rfl (Nat.le_refl _) ⟨by omega, by omega⟩ (Nat.le_of_ble_eq_true rfl) dX11_street_12 ?_
  have G2 := gw_rd (h := (n, K, P, q1, L)) G F2
  have kr := (hRd_at (n, K, P, q1, L)).1
  have ks := (hRd_at (n, K, P, q1, L)).2.1
  have pr := (hRd_Pat (n, K, P, q1, L)).2.1
  have hgd : iX8 (xnew (n, K, P, q1, L) (7, 0)) (n + 1) 3 = hRd (n, K, P, q1, L) := rfl
  rw [hgd]
  have hxI : xI (n, K, P, I, L) q1 = (n, K, P, q1, L) := rfl
  rw [hxI] at e2 hm
  generalize hg : hRd (n, K, P, q1, L) = hh at G2 kr ks pr e2 hm ⊢
  obtain ⟨n', K', P', I', L'⟩ := hh
  replace kr : K' (n + 1) = (7, 0) := kr
  replace ks : K' (n + 2) = (6, 0) := ks
  replace pr : P' (n + 1) 1 = n + 2 := pr
  refine X_astore_n (lv' := [(1, .ref (n + 1)), (0, .ref 1)]) dX11_street_15 rfl (by decide) rfl rfl ?_
  refine X_aload_n 0 dX11_street_16 rfl rfl rfl ?_
  refine X_cV1 (ci := 7) (kX8_readAll d (by omega) G2 kr e2) ml_X11_101 mi_X8_readAll rfl cf_7 kr rfl rfl (Nat.le_refl _) ⟨by omega, by omega⟩ (Nat.le_of_ble_eq_true rfl) dX11_street_17 ?_
  refine X_if_ne (tgt := 34) dX11_street_20 (by decide) (fun c2 => ?_) (fun c2 => ?_)
  · replace hm := iq c2 hm
    obtain ⟨q3, e3, hm⟩ := ob hm
    replace hm := Option.some.inj hm
    subst hm
    refine X_aload_n 1 dX11_street_34 rfl rfl rfl ?_
    refine X_getPe (b := 12) fl_X11_38 (g_K1 G2) rfl (g_P1_6 G2) dX11_street_35 ?_
    refine X_aload_n 0 dX11_street_38 rfl rfl rfl ?_
    refine X_getPe (b := n + 2) fl_X11_108 kr rfl pr dX11_street_39 ?_
    refine X_cV0 (ci := 9) (kX10_begin d (by omega) G2 ks e3) ml_X11_112 mi_X10_begin rfl cf_9 (g_K12 G2) rfl rfl (Nat.le_refl _) ⟨by omega, by omega⟩ (Nat.le_of_ble_eq_true rfl) dX11_street_42 ?_
    have G3 := gw_X10_begin G2 ks e3
    refine X_aload_n 1 dX11_street_45 rfl rfl rfl ?_
    refine X_getPe (b := 12) fl_X11_38 (g_K1 G3) rfl (g_P1_6 G3) dX11_street_46 ?_
    refine X_getP fl_X11_116 (g_K12 G3) rfl dX11_street_49 ?_
    refine X_getI fl_X11_119 (gl9_st G3 (g_K12 G3)) rfl dX11_street_52 ?_
    refine X_widen (u2 := 12) (w2 := 85) (by omega) (by omega) ?_
    exact X_iret dX11_street_55 rfl
  · replace hm := ip c2 hm
    replace hm := Option.some.inj hm
    subst hm
    refine X_bipush (v := (-2 : Int32)) dX11_street_23 (by decide) ?_
    refine X_aload_n 1 dX11_street_25 rfl rfl rfl ?_
    refine X_getPe (b := 3) fl_X11_16 (g_K1 G2) rfl (g_P1_2 G2) dX11_street_26 ?_
    refine X_getI fl_X11_105 (g_K3 G2) rfl dX11_street_29 ?_
    refine X_isub dX11_street_32 ?_
    refine X_widen (u2 := 12) (w2 := 85) (by omega) (by omega) ?_
    exact X_iret dX11_street_33 rfl
/-- an image's world, made if it is not there -/
def hIm (h : xH) (k : Nat) : xH := if h.2.2.1 91 k ≠ 0 then h else pP (hWd h) 91 k (h.1 + 1)
def mX11_image (h : xH) (k : Int32) : Option (Int32 × xH) :=
  Option.bind (mX11_isWithin k (0 : Int32) (3 : Int32)) (fun q1 => if q1 = 0 then some (-1, h) else if inb k 4 = true then if (hIm h (ix k)).2.2.1 91 (ix k) ≠ 0 then
    Option.bind (mX10_copyFrom (hIm h (ix k)).2.2.1 (hIm h (ix k)).2.2.2.1 (hIm h (ix k)).2.2.2.2 ((hIm h (ix k)).2.2.1 91 (ix k)) 12) (fun q2 => some (q2.2.1 24 2, ((hIm h (ix k)).1, (hIm h (ix k)).2.1, q2.1, q2.2.1, q2.2.2)))
    else none else none)
theorem gw_im {h : xH} (G : GW h.2.1 h.2.2.1) (F : Fr h) (k : Nat) : GW (hIm h k).2.1 (hIm h k).2.2.1 ∧ Fr (hIm h k) := by
  unfold hIm
  split
  · exact ⟨G, F⟩
  · have kw : (hWd h).2.1 (h.1 + 1) = (9, 0) := by rw [hWd_eq, wloop_K 20 (by rw [hWa_1]; omega)]; exact (hWa_at h).1
    exact ⟨gw_upd (gw_wd G F) 91 k (h.1 + 1) (Or.inr (Or.inr (Or.inr ⟨rfl, Or.inr kw⟩))), Fr_wd F⟩
theorem hIm_K {h : xH} (F : Fr h) {k b : Nat} {t : Nat × Nat} (e : h.2.1 b = t) (ht : t.1 < 30) : (hIm h k).2.1 b = t := by
  unfold hIm
  split
  · exact e
  · rw [pP_K, hWd_K (Fr_le F e ht)]; exact e
set_option maxHeartbeats 1000000 in
set_option maxRecDepth 100000 in
theorem kX11_image_33 {E : xE} {B : Nat} {h : xH} {k : Int32} {q : Int32 × xH} {u w : Nat} (d : Nat) (hd : 4 ≤ d) (hu : u ≤ 79) (hw : w ≤ 647) (G : GW h.2.1 h.2.2.1) (g1 : inb k 4 = true) (g2 : h.2.2.1 91 (ix k) ≠ 0) (hm : Option.bind (mX10_copyFrom h.2.2.1 h.2.2.2.1 h.2.2.2.2 (h.2.2.1 91 (ix k)) 12) (fun q2 => some (q2.2.1 24 2, (h.1, h.2.1, q2.1, q2.2.1, q2.2.2))) = some q) : X E B d 79 647 yX11_image cX11_image 2 (some .int) (some (.int q.1), q.2) 33 [(0, .ref 1), (1, .int k)] [] u w h := by
  obtain ⟨d, rfl⟩ : ∃ d0, d = d0 + 1 := ⟨d - 1, by omega⟩
  obtain ⟨n, K, P, I, L⟩ := h
  obtain ⟨q2, e2, hm⟩ := ob hm
  replace hm := Option.some.inj hm
  subst hm
  have kw : K (P 91 (ix k)) = (9, 0) := (g_img G (inb_lt g1)).resolve_left g2
  refine X_aload_n 0 dX11_image_33 rfl rfl rfl ?_
  refine X_getPe (b := 91) fl_X11_42 (g_K1 G) rfl (g_P1_7 G) dX11_image_34 ?_
  refine X_iload_n 1 dX11_image_37 rfl rfl ?_
  refine X_aaldJ (g_K91 G) (by decide) rfl g1 rfl dX11_image_38 ?_
  refine X_aload_n 0 dX11_image_39 rfl rfl rfl ?_
  refine X_getPe (b := 12) fl_X11_38 (g_K1 G) rfl (g_P1_6 G) dX11_image_40 ?_
  refine X_cV0 (ci := 9) (kX10_copyFrom d (by omega) G kw (g_K12 G) e2) ml_X11_416 mi_X10_copyFrom rfl cf_9 kw rfl rfl (Nat.le_refl _) ⟨by omega, by omega⟩ (Nat.le_of_ble_eq_true rfl) dX11_image_43 ?_
  have G3 := gw_X10_copyFrom G kw (g_K12 G) e2
  refine X_aload_n 0 dX11_image_46 rfl rfl rfl ?_
  refine X_getPe (b := 12) fl_X11_38 (g_K1 G3) rfl (g_P1_6 G3) dX11_image_47 ?_
  refine X_getPe (b := 24) fl_X11_142 (g_K12 G3) rfl (g_P12_1 G3) dX11_image_50 ?_
  refine X_getI fl_X11_165 (g_K24 G3) rfl dX11_image_53 ?_
  refine X_widen (u2 := 79) (w2 := 647) (by omega) (by omega) ?_
  exact X_iret dX11_image_56 rfl
set_option maxHeartbeats 1000000 in
set_option maxRecDepth 100000 in
theorem kX11_image {E : xE} {B : Nat} {h : xH} {k : Int32} {q : Int32 × xH} (d : Nat) (hd : 5 ≤ d) (G : GW h.2.1 h.2.2.1) (Fh : Fr h) (hm : mX11_image h k = some q) : MX E B d 79 647 yX11_image cX11_image 2 (some .int) [.ref 1, .int k] h (some (.int q.1), q.2) := by
  refine MX_of (lv := [(0, .ref 1), (1, .int k)]) (by decide +kernel) (Nat.le_of_ble_eq_true rfl) rfl ?_
  obtain ⟨d, rfl⟩ : ∃ d0, d = d0 + 1 := ⟨d - 1, by omega⟩
  unfold mX11_image at hm
  obtain ⟨q1, e1, hm⟩ := ob hm
  refine X_iload_n 1 dX11_image_0 rfl rfl ?_
  refine X_iconst (v := (0 : Int32)) dX11_image_1 (by decide) ?_
  refine X_iconst (v := (3 : Int32)) dX11_image_2 (by decide) ?_
  refine X_cS1 (kX11_isWithin (n := h.1) (K := h.2.1) (P := h.2.2.1) (I := h.2.2.2.1) (L := h.2.2.2.2) d (by omega) G e1) ml_X11_285 ms_X11_isWithin rfl rfl (Nat.le_refl _) ⟨by omega, by omega⟩ (Nat.le_of_ble_eq_true rfl) dX11_image_3 ?_
  refine X_if_ne (tgt := 11) dX11_image_6 (by decide) (fun c1 => ?_) (fun c1 => ?_)
  · replace hm := iq c1 hm
    obtain ⟨g1, hm⟩ := og hm
    obtain ⟨g2, hm⟩ := og hm
    have hGI := gw_im G Fh (ix k)
    refine X_aload_n 0 dX11_image_11 rfl rfl rfl ?_
    refine X_getPe (b := 91) fl_X11_42 (g_K1 G) rfl (g_P1_7 G) dX11_image_12 ?_
    refine X_iload_n 1 dX11_image_15 rfl rfl ?_
    refine X_aaldJ (g_K91 G) (by decide) rfl g1 rfl dX11_image_16 ?_
    refine X_ifnonnull (tgt := 33) dX11_image_17 (by decide) (fun c2 => ?_) (fun c2 => ?_)
    · have e : hIm h (ix k) = h := if_pos c2
      rw [e] at g2 hm hGI
      exact kX11_image_33 (h := h) _ (by omega) (by omega) (by omega) hGI.1 g1 g2 hm
    · have e : hIm h (ix k) = pP (hWd h) 91 (ix k) (h.1 + 1) := if_neg c2
      have l1 := Fr_le Fh (g_K1 G) (by decide)
      have l91 := Fr_le Fh (g_K91 G) (by decide)
      refine X_aload_n 0 dX11_image_20 rfl rfl rfl ?_
      refine X_getPe (b := 91) fl_X11_42 (g_K1 G) rfl (g_P1_7 G) dX11_image_21 ?_
      refine X_iload_n 1 dX11_image_24 rfl rfl ?_
      refine X_newJ (N := 10) (b := h.1 + 1) nl_X11_35 rfl rfl ⟨by omega, by omega⟩ dX11_image_25 ?_
      refine X_dup dX11_image_28 rfl ?_
      refine X_callI (a := h.1 + 1) (kX10_init (h := xnew h (9, 0)) (a := h.1 + 1) d (by omega) (by rw [xnew_1]; exact Nat.le_refl _) (by omega) (xnew_N _ _)) ml_X11_37 mi_X10_init rfl (by omega) rfl rfl (Nat.le_refl _) ⟨by omega, by omega⟩ (Nat.le_of_ble_eq_true rfl) dX11_image_29 ?_
      have hgd : iX10 (xnew h (9, 0)) (h.1 + 1) = hWd h := rfl
      rw [hgd]
      have kw : (hWd h).2.1 (h.1 + 1) = (9, 0) := by rw [hWd_eq, wloop_K 20 (by rw [hWa_1]; omega)]; exact (hWa_at h).1
      have k91 : (hWd h).2.1 91 = (26, 4) := by rw [hWd_K l91]; exact g_K91 G
      refine X_aastP (n := 4) (t := 26) (ci := 9) k91 (by decide) (by decide) cf_9 rfl kw g1 dX11_image_32 ?_
      rw [e] at g2 hm hGI
      exact kX11_image_33 (h := pP (hWd h) 91 (ix k) (h.1 + 1)) _ (by omega) (by omega) (by omega) hGI.1 g1 g2 hm
  · replace hm := ip c1 hm
    replace hm := Option.some.inj hm
    subst hm
    refine X_iconst (v := (-1 : Int32)) dX11_image_9 (by decide) ?_
    refine X_widen (u2 := 79) (w2 := 647) (by omega) (by omega) ?_
    exact X_iret dX11_image_10 rfl

def mX11_cellsOwnedBy_4 (P : Nat → Nat → Nat) (I : Nat → Nat → Int32) (L : Nat → Nat → Int64)  : Nat → Int32 → Int32 → Int32 → Option (Int32)
  | 0, _, _, _ => none
  | f + 1, a1, a2, a3 => (if (I (P 12 0) 6) ≤ a3 then (some a2) else (if inb a3 16 = true then (Option.bind (mX7_ownerOf I (P 12 0) (L 25 (ix a3)) (I 24 2)) (fun q3 => (if q3 = a1 then (mX11_cellsOwnedBy_4 P I L f a1 (a2 ||| (xshl (1 : Int32) a3)) (a3 + 1)) else (mX11_cellsOwnedBy_4 P I L f a1 a2 (a3 + 1))))) else none))
set_option maxHeartbeats 400000 in
set_option maxRecDepth 100000 in
theorem kX11_cellsOwnedBy_4 {E : xE} {B : Nat} {n : Nat} {K : Nat → Nat × Nat} {P : Nat → Nat → Nat} {I : Nat → Nat → Int32} {L : Nat → Nat → Int64}   {q : Int32} (d : Nat) (hd : 3 ≤ d) (G : GW K P)   : ∀ (f : Nat) (a1 : Int32) (a2 : Int32) (a3 : Int32), mX11_cellsOwnedBy_4 P I L f a1 a2 a3 = some q → X E B d 0 0 yX11_cellsOwnedBy cX11_cellsOwnedBy 4 (some .int) (some (.int q), (n, K, P, I, L)) 4 [(0, .ref 1), (1, .int a1), (2, .int a2), (3, .int a3)] [] 0 0 (n, K, P, I, L) := by
  obtain ⟨d, rfl⟩ : ∃ d0, d = d0 + 1 := ⟨d - 1, by omega⟩
  intro f
  induction f with
  | zero => intro _ _ _ hm; exact nomatch (show (none : Option (Int32)) = some q from hm)
  | succ f ih =>
    intro a1 a2 a3 hm
    rw [mX11_cellsOwnedBy_4] at hm
    refine X_iload_n 3 dX11_cellsOwnedBy_4 rfl rfl ?_
    refine X_aload_n 0 dX11_cellsOwnedBy_5 rfl rfl rfl ?_
    refine X_getPe fl_X11_38 (g_K1 G) rfl (g_P1_6 G) dX11_cellsOwnedBy_6 ?_
    refine X_getP fl_X11_116 (g_K12 G) rfl dX11_cellsOwnedBy_9 ?_
    refine X_getI fl_X11_119 (gl9_st G (g_K12 G)) rfl dX11_cellsOwnedBy_12 ?_
    refine X_icmp_ge (tgt := 66) dX11_cellsOwnedBy_15 (by decide) (fun c1 => ?_) (fun c1 => ?_)
    · replace hm := ip c1 hm
      refine X_iload_n 2 dX11_cellsOwnedBy_66 rfl rfl ?_
      replace hm := Option.some.inj hm
      subst hm
      exact X_iret dX11_cellsOwnedBy_67 rfl
    · replace hm := iq c1 hm
      refine X_aload_n 0 dX11_cellsOwnedBy_18 rfl rfl rfl ?_
      refine X_getPe fl_X11_38 (g_K1 G) rfl (g_P1_6 G) dX11_cellsOwnedBy_19 ?_
      refine X_getP fl_X11_116 (g_K12 G) rfl dX11_cellsOwnedBy_22 ?_
      refine X_aload_n 0 dX11_cellsOwnedBy_25 rfl rfl rfl ?_
      refine X_getPe fl_X11_38 (g_K1 G) rfl (g_P1_6 G) dX11_cellsOwnedBy_26 ?_
      refine X_getPe fl_X11_142 (g_K12 G) rfl (g_P12_1 G) dX11_cellsOwnedBy_29 ?_
      refine X_getPe fl_X11_152 (g_K24 G) rfl (g_P24_0 G) dX11_cellsOwnedBy_32 ?_
      refine X_iload_n 3 dX11_cellsOwnedBy_35 rfl rfl ?_
      obtain ⟨g2, hm⟩ := og hm
      refine X_laldJ (g_K25 G) g2 rfl dX11_cellsOwnedBy_36 ?_
      refine X_aload_n 0 dX11_cellsOwnedBy_37 rfl rfl rfl ?_
      refine X_getPe fl_X11_38 (g_K1 G) rfl (g_P1_6 G) dX11_cellsOwnedBy_38 ?_
      refine X_getPe fl_X11_142 (g_K12 G) rfl (g_P12_1 G) dX11_cellsOwnedBy_41 ?_
      refine X_getI fl_X11_165 (g_K24 G) rfl dX11_cellsOwnedBy_44 ?_
      obtain ⟨q3, e4, hm⟩ := ob hm
      refine X_cV1 (ci := 6) (kX7_ownerOf d (by omega) G (gl9_st G (g_K12 G)) e4) ml_X11_168 mi_X7_ownerOf rfl cf_6 (gl9_st G (g_K12 G)) rfl rfl (Nat.le_refl _) ⟨Nat.le_refl _, Nat.le_refl _⟩ (Nat.le_of_ble_eq_true rfl) dX11_cellsOwnedBy_47 ?_
      refine X_iload_n 1 dX11_cellsOwnedBy_50 rfl rfl ?_
      refine X_icmp_ne (tgt := 60) dX11_cellsOwnedBy_51 (by decide) (fun c5 => ?_) (fun c5 => ?_)
      · replace hm := iq c5 hm
        refine X_iinc (lv' := [(3, .int (a3 + 1)), (0, .ref 1), (1, .int a1), (2, .int a2)]) 3 dX11_cellsOwnedBy_60 rfl rfl (by decide) rfl ?_
        refine X_goto (tgt := 4) dX11_cellsOwnedBy_63 (by decide) ?_
        exact X_lv [1, 2, 3, 0] rfl (ih _ _ _ hm)
      · replace hm := ip c5 hm
        refine X_iload_n 2 dX11_cellsOwnedBy_54 rfl rfl ?_
        refine X_iconst (v := (1 : Int32)) dX11_cellsOwnedBy_55 (by decide) ?_
        refine X_iload_n 3 dX11_cellsOwnedBy_56 rfl rfl ?_
        refine X_ishl dX11_cellsOwnedBy_57 ?_
        refine X_ior dX11_cellsOwnedBy_58 ?_
        refine X_istore_n (lv' := [(2, .int (a2 ||| (xshl (1 : Int32) a3))), (0, .ref 1), (1, .int a1), (3, .int a3)]) dX11_cellsOwnedBy_59 rfl (by decide) rfl ?_
        refine X_iinc (lv' := [(3, .int (a3 + 1)), (2, .int (a2 ||| (xshl (1 : Int32) a3))), (0, .ref 1), (1, .int a1)]) 3 dX11_cellsOwnedBy_60 rfl rfl (by decide) rfl ?_
        refine X_goto (tgt := 4) dX11_cellsOwnedBy_63 (by decide) ?_
        exact X_lv [2, 3, 1, 0] rfl (ih _ _ _ hm)
def mX11_cellsOwnedBy (P : Nat → Nat → Nat) (I : Nat → Nat → Int32) (L : Nat → Nat → Int64) (a1 : Int32) : Option (Int32) := (mX11_cellsOwnedBy_4 P I L xf a1 (0 : Int32) (0 : Int32))
set_option maxHeartbeats 400000 in
set_option maxRecDepth 100000 in
theorem kX11_cellsOwnedBy {E : xE} {B : Nat} {n : Nat} {K : Nat → Nat × Nat} {P : Nat → Nat → Nat} {I : Nat → Nat → Int32} {L : Nat → Nat → Int64}  {a1 : Int32} {q : Int32} (d : Nat) (hd : 3 ≤ d) (G : GW K P)   (hm : mX11_cellsOwnedBy P I L a1 = some q) : MX E B d 0 0 yX11_cellsOwnedBy cX11_cellsOwnedBy 4 (some .int) [.ref 1, .int a1] (n, K, P, I, L) (some (.int q), (n, K, P, I, L)) := by
  refine MX_of (lv := [(0, .ref 1), (1, .int a1)]) (by decide +kernel) (Nat.le_of_ble_eq_true rfl) rfl ?_
  obtain ⟨d, rfl⟩ : ∃ d0, d = d0 + 1 := ⟨d - 1, by omega⟩
  unfold mX11_cellsOwnedBy at hm
  refine X_iconst (v := (0 : Int32)) dX11_cellsOwnedBy_0 (by decide) ?_
  refine X_istore_n (lv' := [(2, .int (0 : Int32)), (0, .ref 1), (1, .int a1)]) dX11_cellsOwnedBy_1 rfl (by decide) rfl ?_
  refine X_iconst (v := (0 : Int32)) dX11_cellsOwnedBy_2 (by decide) ?_
  refine X_istore_n (lv' := [(3, .int (0 : Int32)), (2, .int (0 : Int32)), (0, .ref 1), (1, .int a1)]) dX11_cellsOwnedBy_3 rfl (by decide) rfl ?_
  refine X_lv [2, 3, 1, 0] rfl (kX11_cellsOwnedBy_4 _ hd G xf _ _ _  hm)
def mX11_thingsOwnedBy_4 (P : Nat → Nat → Nat) (I : Nat → Nat → Int32) (L : Nat → Nat → Int64)  : Nat → Int32 → Int32 → Int32 → Option (Int32)
  | 0, _, _, _ => none
  | f + 1, a1, a2, a3 => (if (I (P 12 0) 5) ≤ a3 then (some a2) else (Option.bind (mX7_ownerOfThing I L (P 12 0) 24 a3) (fun q2 => (if q2 = a1 then (mX11_thingsOwnedBy_4 P I L f a1 (a2 ||| (xshl (1 : Int32) a3)) (a3 + 1)) else (mX11_thingsOwnedBy_4 P I L f a1 a2 (a3 + 1))))))
set_option maxHeartbeats 400000 in
set_option maxRecDepth 100000 in
theorem kX11_thingsOwnedBy_4 {E : xE} {B : Nat} {n : Nat} {K : Nat → Nat × Nat} {P : Nat → Nat → Nat} {I : Nat → Nat → Int32} {L : Nat → Nat → Int64}   {q : Int32} (d : Nat) (hd : 5 ≤ d) (G : GW K P)   : ∀ (f : Nat) (a1 : Int32) (a2 : Int32) (a3 : Int32), mX11_thingsOwnedBy_4 P I L f a1 a2 a3 = some q → X E B d 0 0 yX11_thingsOwnedBy cX11_thingsOwnedBy 4 (some .int) (some (.int q), (n, K, P, I, L)) 4 [(0, .ref 1), (1, .int a1), (2, .int a2), (3, .int a3)] [] 0 0 (n, K, P, I, L) := by
  obtain ⟨d, rfl⟩ : ∃ d0, d = d0 + 1 := ⟨d - 1, by omega⟩
  intro f
  induction f with
  | zero => intro _ _ _ hm; exact nomatch (show (none : Option (Int32)) = some q from hm)
  | succ f ih =>
    intro a1 a2 a3 hm
    rw [mX11_thingsOwnedBy_4] at hm
    refine X_iload_n 3 dX11_thingsOwnedBy_4 rfl rfl ?_
    refine X_aload_n 0 dX11_thingsOwnedBy_5 rfl rfl rfl ?_
    refine X_getPe fl_X11_38 (g_K1 G) rfl (g_P1_6 G) dX11_thingsOwnedBy_6 ?_
    refine X_getP fl_X11_116 (g_K12 G) rfl dX11_thingsOwnedBy_9 ?_
    refine X_getI fl_X11_136 (gl9_st G (g_K12 G)) rfl dX11_thingsOwnedBy_12 ?_
    refine X_icmp_ge (tgt := 52) dX11_thingsOwnedBy_15 (by decide) (fun c1 => ?_) (fun c1 => ?_)
    · replace hm := ip c1 hm
      refine X_iload_n 2 dX11_thingsOwnedBy_52 rfl rfl ?_
      replace hm := Option.some.inj hm
      subst hm
      exact X_iret dX11_thingsOwnedBy_53 rfl
    · replace hm := iq c1 hm
      refine X_aload_n 0 dX11_thingsOwnedBy_18 rfl rfl rfl ?_
      refine X_getPe fl_X11_38 (g_K1 G) rfl (g_P1_6 G) dX11_thingsOwnedBy_19 ?_
      refine X_getP fl_X11_116 (g_K12 G) rfl dX11_thingsOwnedBy_22 ?_
      refine X_aload_n 0 dX11_thingsOwnedBy_25 rfl rfl rfl ?_
      refine X_getPe fl_X11_38 (g_K1 G) rfl (g_P1_6 G) dX11_thingsOwnedBy_26 ?_
      refine X_getPe fl_X11_142 (g_K12 G) rfl (g_P12_1 G) dX11_thingsOwnedBy_29 ?_
      refine X_iload_n 3 dX11_thingsOwnedBy_32 rfl rfl ?_
      obtain ⟨q2, e3, hm⟩ := ob hm
      refine X_cV1 (ci := 6) (kX7_ownerOfThing d (by omega) G (gl9_st G (g_K12 G)) (g_K24 G) e3) ml_X11_204 mi_X7_ownerOfThing rfl cf_6 (gl9_st G (g_K12 G)) rfl rfl (Nat.le_refl _) ⟨Nat.le_refl _, Nat.le_refl _⟩ (Nat.le_of_ble_eq_true rfl) dX11_thingsOwnedBy_33 ?_
      refine X_iload_n 1 dX11_thingsOwnedBy_36 rfl rfl ?_
      refine X_icmp_ne (tgt := 46) dX11_thingsOwnedBy_37 (by decide) (fun c4 => ?_) (fun c4 => ?_)
      · replace hm := iq c4 hm
        refine X_iinc (lv' := [(3, .int (a3 + 1)), (0, .ref 1), (1, .int a1), (2, .int a2)]) 3 dX11_thingsOwnedBy_46 rfl rfl (by decide) rfl ?_
        refine X_goto (tgt := 4) dX11_thingsOwnedBy_49 (by decide) ?_
        exact X_lv [1, 2, 3, 0] rfl (ih _ _ _ hm)
      · replace hm := ip c4 hm
        refine X_iload_n 2 dX11_thingsOwnedBy_40 rfl rfl ?_
        refine X_iconst (v := (1 : Int32)) dX11_thingsOwnedBy_41 (by decide) ?_
        refine X_iload_n 3 dX11_thingsOwnedBy_42 rfl rfl ?_
        refine X_ishl dX11_thingsOwnedBy_43 ?_
        refine X_ior dX11_thingsOwnedBy_44 ?_
        refine X_istore_n (lv' := [(2, .int (a2 ||| (xshl (1 : Int32) a3))), (0, .ref 1), (1, .int a1), (3, .int a3)]) dX11_thingsOwnedBy_45 rfl (by decide) rfl ?_
        refine X_iinc (lv' := [(3, .int (a3 + 1)), (2, .int (a2 ||| (xshl (1 : Int32) a3))), (0, .ref 1), (1, .int a1)]) 3 dX11_thingsOwnedBy_46 rfl rfl (by decide) rfl ?_
        refine X_goto (tgt := 4) dX11_thingsOwnedBy_49 (by decide) ?_
        exact X_lv [2, 3, 1, 0] rfl (ih _ _ _ hm)
def mX11_thingsOwnedBy (P : Nat → Nat → Nat) (I : Nat → Nat → Int32) (L : Nat → Nat → Int64) (a1 : Int32) : Option (Int32) := (mX11_thingsOwnedBy_4 P I L xf a1 (0 : Int32) (0 : Int32))
set_option maxHeartbeats 400000 in
set_option maxRecDepth 100000 in
theorem kX11_thingsOwnedBy {E : xE} {B : Nat} {n : Nat} {K : Nat → Nat × Nat} {P : Nat → Nat → Nat} {I : Nat → Nat → Int32} {L : Nat → Nat → Int64}  {a1 : Int32} {q : Int32} (d : Nat) (hd : 5 ≤ d) (G : GW K P)   (hm : mX11_thingsOwnedBy P I L a1 = some q) : MX E B d 0 0 yX11_thingsOwnedBy cX11_thingsOwnedBy 4 (some .int) [.ref 1, .int a1] (n, K, P, I, L) (some (.int q), (n, K, P, I, L)) := by
  refine MX_of (lv := [(0, .ref 1), (1, .int a1)]) (by decide +kernel) (Nat.le_of_ble_eq_true rfl) rfl ?_
  obtain ⟨d, rfl⟩ : ∃ d0, d = d0 + 1 := ⟨d - 1, by omega⟩
  unfold mX11_thingsOwnedBy at hm
  refine X_iconst (v := (0 : Int32)) dX11_thingsOwnedBy_0 (by decide) ?_
  refine X_istore_n (lv' := [(2, .int (0 : Int32)), (0, .ref 1), (1, .int a1)]) dX11_thingsOwnedBy_1 rfl (by decide) rfl ?_
  refine X_iconst (v := (0 : Int32)) dX11_thingsOwnedBy_2 (by decide) ?_
  refine X_istore_n (lv' := [(3, .int (0 : Int32)), (2, .int (0 : Int32)), (0, .ref 1), (1, .int a1)]) dX11_thingsOwnedBy_3 rfl (by decide) rfl ?_
  refine X_lv [2, 3, 1, 0] rfl (kX11_thingsOwnedBy_4 _ hd G xf _ _ _  hm)
def mX11_painter (P : Nat → Nat → Nat) (I : Nat → Nat → Int32) (L : Nat → Nat → Int64) (a1 : Int32) (a2 : Int32) : Option (Int32) := (Option.bind (mX11_isPainter P I a1) (fun q1 => (if q1 = 0 then (some (-1 : Int32)) else (if a2 = (0 : Int32) then (if inb a1 4 = true then (some (I ((P 12 0) + 5) (ix a1))) else none) else (if a2 = (1 : Int32) then (if inb a1 4 = true then (some (I 26 (ix a1))) else none) else (if a2 = (2 : Int32) then (Option.bind (mX11_cellsOwnedBy P I L a1) (fun q9 => (some q9))) else (if a2 = (3 : Int32) then (Option.bind (mX11_thingsOwnedBy P I L a1) (fun q12 => (some q12))) else (some (-1 : Int32)))))))))
set_option maxHeartbeats 400000 in
set_option maxRecDepth 100000 in
theorem kX11_painter {E : xE} {B : Nat} {n : Nat} {K : Nat → Nat × Nat} {P : Nat → Nat → Nat} {I : Nat → Nat → Int32} {L : Nat → Nat → Int64}  {a1 : Int32} {a2 : Int32} {q : Int32} (d : Nat) (hd : 6 ≤ d) (G : GW K P)   (hm : mX11_painter P I L a1 a2 = some q) : MX E B d 0 0 yX11_painter cX11_painter 3 (some .int) [.ref 1, .int a1, .int a2] (n, K, P, I, L) (some (.int q), (n, K, P, I, L)) := by
  refine MX_of (lv := [(0, .ref 1), (1, .int a1), (2, .int a2)]) (by decide +kernel) (Nat.le_of_ble_eq_true rfl) rfl ?_
  obtain ⟨d, rfl⟩ : ∃ d0, d = d0 + 1 := ⟨d - 1, by omega⟩
  unfold mX11_painter at hm
  refine X_aload_n 0 dX11_painter_0 rfl rfl rfl ?_
  refine X_iload_n 1 dX11_painter_1 rfl rfl ?_
  obtain ⟨q1, e2, hm⟩ := ob hm
  refine X_cV1 (ci := 10) (kX11_isPainter d (by omega) G e2) ml_X11_183 mi_X11_isPainter rfl cf_10 (g_K1 G) rfl rfl (Nat.le_refl _) ⟨Nat.le_refl _, Nat.le_refl _⟩ (Nat.le_of_ble_eq_true rfl) dX11_painter_2 ?_
  refine X_if_ne (tgt := 10) dX11_painter_5 (by decide) (fun c3 => ?_) (fun c3 => ?_)
  · replace hm := iq c3 hm
    refine X_iload_n 2 dX11_painter_10 rfl rfl ?_
    rcases Decidable.em (a2 = (0 : Int32)) with c4 | c4
    · replace hm := ip c4 hm
      refine X_swK (off := 29) (tgt := 40) c4 dX11_painter_11 (by decide) (by decide) (by decide) (by decide) ?_
      refine X_aload_n 0 dX11_painter_40 rfl rfl rfl ?_
      refine X_getPe fl_X11_38 (g_K1 G) rfl (g_P1_6 G) dX11_painter_41 ?_
      refine X_getP fl_X11_116 (g_K12 G) rfl dX11_painter_44 ?_
      refine X_getPe fl_X11_186 (gl9_st G (g_K12 G)) rfl (gl6_P13 G (gl9_st G (g_K12 G))) dX11_painter_47 ?_
      refine X_iload_n 1 dX11_painter_50 rfl rfl ?_
      obtain ⟨g5, hm⟩ := og hm
      refine X_ialdJ (gl6_K5 G (gl9_st G (g_K12 G))) g5 rfl dX11_painter_51 ?_
      replace hm := Option.some.inj hm
      subst hm
      exact X_iret dX11_painter_52 rfl
    · replace hm := iq c4 hm
      rcases Decidable.em (a2 = (1 : Int32)) with c6 | c6
      · replace hm := ip c6 hm
        refine X_swK (off := 42) (tgt := 53) c6 dX11_painter_11 (by decide) (by decide) (by decide) (by decide) ?_
        refine X_aload_n 0 dX11_painter_53 rfl rfl rfl ?_
        refine X_getPe fl_X11_38 (g_K1 G) rfl (g_P1_6 G) dX11_painter_54 ?_
        refine X_getPe fl_X11_142 (g_K12 G) rfl (g_P12_1 G) dX11_painter_57 ?_
        refine X_getPe fl_X11_209 (g_K24 G) rfl (g_P24_1 G) dX11_painter_60 ?_
        refine X_iload_n 1 dX11_painter_63 rfl rfl ?_
        obtain ⟨g7, hm⟩ := og hm
        refine X_ialdJ (g_K26 G) g7 rfl dX11_painter_64 ?_
        replace hm := Option.some.inj hm
        subst hm
        exact X_iret dX11_painter_65 rfl
      · replace hm := iq c6 hm
        rcases Decidable.em (a2 = (2 : Int32)) with c8 | c8
        · replace hm := ip c8 hm
          refine X_swK (off := 55) (tgt := 66) c8 dX11_painter_11 (by decide) (by decide) (by decide) (by decide) ?_
          refine X_aload_n 0 dX11_painter_66 rfl rfl rfl ?_
          refine X_iload_n 1 dX11_painter_67 rfl rfl ?_
          obtain ⟨q9, e10, hm⟩ := ob hm
          refine X_cV1 (ci := 10) (kX11_cellsOwnedBy d (by omega) G e10) ml_X11_212 mi_X11_cellsOwnedBy rfl cf_10 (g_K1 G) rfl rfl (Nat.le_refl _) ⟨Nat.le_refl _, Nat.le_refl _⟩ (Nat.le_of_ble_eq_true rfl) dX11_painter_68 ?_
          replace hm := Option.some.inj hm
          subst hm
          exact X_iret dX11_painter_71 rfl
        · replace hm := iq c8 hm
          rcases Decidable.em (a2 = (3 : Int32)) with c11 | c11
          · replace hm := ip c11 hm
            refine X_swK (off := 61) (tgt := 72) c11 dX11_painter_11 (by decide) (by decide) (by decide) (by decide) ?_
            refine X_aload_n 0 dX11_painter_72 rfl rfl rfl ?_
            refine X_iload_n 1 dX11_painter_73 rfl rfl ?_
            obtain ⟨q12, e13, hm⟩ := ob hm
            refine X_cV1 (ci := 10) (kX11_thingsOwnedBy d (by omega) G e13) ml_X11_216 mi_X11_thingsOwnedBy rfl cf_10 (g_K1 G) rfl rfl (Nat.le_refl _) ⟨Nat.le_refl _, Nat.le_refl _⟩ (Nat.le_of_ble_eq_true rfl) dX11_painter_74 ?_
            replace hm := Option.some.inj hm
            subst hm
            exact X_iret dX11_painter_77 rfl
          · replace hm := iq c11 hm
            refine X_tableOut (tgt := 78) dX11_painter_11 (sw_out 4 (by decide) (fun i hi => by
              have hi2 : i = 0 ∨ i = 1 ∨ i = 2 ∨ i = 3 := by omega
              rcases hi2 with rfl | rfl | rfl | rfl
              · exact c4
              · exact c6
              · exact c8
              · exact c11)) (by decide) ?_
            refine X_iconst (v := (-1 : Int32)) dX11_painter_78 (by decide) ?_
            replace hm := Option.some.inj hm
            subst hm
            exact X_iret dX11_painter_79 rfl
  · replace hm := ip c3 hm
    refine X_iconst (v := (-1 : Int32)) dX11_painter_8 (by decide) ?_
    replace hm := Option.some.inj hm
    subst hm
    exact X_iret dX11_painter_9 rfl
def mX11_rain (P : Nat → Nat → Nat) (I : Nat → Nat → Int32) (a1 : Int32) : Option (Int32) := (if a1 < 0 then (some (-1 : Int32)) else (if (I (P 12 0) 0) = 0 then (some (-1 : Int32)) else (Option.bind (mX7_rainsIn I (P 12 0) a1) (fun q3 => (if q3 = 0 then (some (0 : Int32)) else (some (1 : Int32)))))))
set_option maxHeartbeats 400000 in
set_option maxRecDepth 100000 in
theorem kX11_rain {E : xE} {B : Nat} {n : Nat} {K : Nat → Nat × Nat} {P : Nat → Nat → Nat} {I : Nat → Nat → Int32} {L : Nat → Nat → Int64}  {a1 : Int32} {q : Int32} (d : Nat) (hd : 1 ≤ d) (G : GW K P)   (hm : mX11_rain P I a1 = some q) : MX E B d 0 0 yX11_rain cX11_rain 2 (some .int) [.ref 1, .int a1] (n, K, P, I, L) (some (.int q), (n, K, P, I, L)) := by
  refine MX_of (lv := [(0, .ref 1), (1, .int a1)]) (by decide +kernel) (Nat.le_of_ble_eq_true rfl) rfl ?_
  obtain ⟨d, rfl⟩ : ∃ d0, d = d0 + 1 := ⟨d - 1, by omega⟩
  unfold mX11_rain at hm
  refine X_iload_n 1 dX11_rain_0 rfl rfl ?_
  refine X_if_lt (tgt := 17) dX11_rain_1 (by decide) (fun c1 => ?_) (fun c1 => ?_)
  · replace hm := ip c1 hm
    refine X_iconst (v := (-1 : Int32)) dX11_rain_17 (by decide) ?_
    replace hm := Option.some.inj hm
    subst hm
    exact X_iret dX11_rain_18 rfl
  · replace hm := iq c1 hm
    refine X_aload_n 0 dX11_rain_4 rfl rfl rfl ?_
    refine X_getPe fl_X11_38 (g_K1 G) rfl (g_P1_6 G) dX11_rain_5 ?_
    refine X_getP fl_X11_116 (g_K12 G) rfl dX11_rain_8 ?_
    refine X_getI fl_X11_219 (gl9_st G (g_K12 G)) rfl dX11_rain_11 ?_
    refine X_if_ne (tgt := 19) dX11_rain_14 (by decide) (fun c2 => ?_) (fun c2 => ?_)
    · replace hm := iq c2 hm
      refine X_aload_n 0 dX11_rain_19 rfl rfl rfl ?_
      refine X_getPe fl_X11_38 (g_K1 G) rfl (g_P1_6 G) dX11_rain_20 ?_
      refine X_getP fl_X11_116 (g_K12 G) rfl dX11_rain_23 ?_
      refine X_iload_n 1 dX11_rain_26 rfl rfl ?_
      obtain ⟨q3, e4, hm⟩ := ob hm
      refine X_cV1 (ci := 6) (kX7_rainsIn d (by omega) G (gl9_st G (g_K12 G)) e4) ml_X11_223 mi_X7_rainsIn rfl cf_6 (gl9_st G (g_K12 G)) rfl rfl (Nat.le_refl _) ⟨Nat.le_refl _, Nat.le_refl _⟩ (Nat.le_of_ble_eq_true rfl) dX11_rain_27 ?_
      refine X_if_eq (tgt := 37) dX11_rain_30 (by decide) (fun c5 => ?_) (fun c5 => ?_)
      · replace hm := ip c5 hm
        refine X_iconst (v := (0 : Int32)) dX11_rain_37 (by decide) ?_
        replace hm := Option.some.inj hm
        subst hm
        exact X_iret dX11_rain_38 rfl
      · replace hm := iq c5 hm
        refine X_iconst (v := (1 : Int32)) dX11_rain_33 (by decide) ?_
        refine X_goto (tgt := 38) dX11_rain_34 (by decide) ?_
        replace hm := Option.some.inj hm
        subst hm
        exact X_iret dX11_rain_38 rfl
    · replace hm := ip c2 hm
      refine X_iconst (v := (-1 : Int32)) dX11_rain_17 (by decide) ?_
      replace hm := Option.some.inj hm
      subst hm
      exact X_iret dX11_rain_18 rfl
def mX11_wetCells_4 (P : Nat → Nat → Nat) (I : Nat → Nat → Int32) (L : Nat → Nat → Int64)  : Nat → Int32 → Int32 → Option (Int32)
  | 0, _, _ => none
  | f + 1, a1, a2 => (if (I (P 12 0) 6) ≤ a2 then (some a1) else (if inb a2 16 = true then (Option.bind (mX7_isWet I (P 12 0) (L 25 (ix a2)) (I 24 2)) (fun q3 => (if q3 = 0 then (mX11_wetCells_4 P I L f a1 (a2 + 1)) else (mX11_wetCells_4 P I L f (a1 ||| (xshl (1 : Int32) a2)) (a2 + 1))))) else none))
set_option maxHeartbeats 400000 in
set_option maxRecDepth 100000 in
theorem kX11_wetCells_4 {E : xE} {B : Nat} {n : Nat} {K : Nat → Nat × Nat} {P : Nat → Nat → Nat} {I : Nat → Nat → Int32} {L : Nat → Nat → Int64}   {q : Int32} (d : Nat) (hd : 2 ≤ d) (G : GW K P)   : ∀ (f : Nat) (a1 : Int32) (a2 : Int32), mX11_wetCells_4 P I L f a1 a2 = some q → X E B d 0 0 yX11_wetCells cX11_wetCells 3 (some .int) (some (.int q), (n, K, P, I, L)) 4 [(0, .ref 1), (1, .int a1), (2, .int a2)] [] 0 0 (n, K, P, I, L) := by
  obtain ⟨d, rfl⟩ : ∃ d0, d = d0 + 1 := ⟨d - 1, by omega⟩
  intro f
  induction f with
  | zero => intro _ _ hm; exact nomatch (show (none : Option (Int32)) = some q from hm)
  | succ f ih =>
    intro a1 a2 hm
    rw [mX11_wetCells_4] at hm
    refine X_iload_n 2 dX11_wetCells_4 rfl rfl ?_
    refine X_aload_n 0 dX11_wetCells_5 rfl rfl rfl ?_
    refine X_getPe fl_X11_38 (g_K1 G) rfl (g_P1_6 G) dX11_wetCells_6 ?_
    refine X_getP fl_X11_116 (g_K12 G) rfl dX11_wetCells_9 ?_
    refine X_getI fl_X11_119 (gl9_st G (g_K12 G)) rfl dX11_wetCells_12 ?_
    refine X_icmp_ge (tgt := 65) dX11_wetCells_15 (by decide) (fun c1 => ?_) (fun c1 => ?_)
    · replace hm := ip c1 hm
      refine X_iload_n 1 dX11_wetCells_65 rfl rfl ?_
      replace hm := Option.some.inj hm
      subst hm
      exact X_iret dX11_wetCells_66 rfl
    · replace hm := iq c1 hm
      refine X_aload_n 0 dX11_wetCells_18 rfl rfl rfl ?_
      refine X_getPe fl_X11_38 (g_K1 G) rfl (g_P1_6 G) dX11_wetCells_19 ?_
      refine X_getP fl_X11_116 (g_K12 G) rfl dX11_wetCells_22 ?_
      refine X_aload_n 0 dX11_wetCells_25 rfl rfl rfl ?_
      refine X_getPe fl_X11_38 (g_K1 G) rfl (g_P1_6 G) dX11_wetCells_26 ?_
      refine X_getPe fl_X11_142 (g_K12 G) rfl (g_P12_1 G) dX11_wetCells_29 ?_
      refine X_getPe fl_X11_152 (g_K24 G) rfl (g_P24_0 G) dX11_wetCells_32 ?_
      refine X_iload_n 2 dX11_wetCells_35 rfl rfl ?_
      obtain ⟨g2, hm⟩ := og hm
      refine X_laldJ (g_K25 G) g2 rfl dX11_wetCells_36 ?_
      refine X_aload_n 0 dX11_wetCells_37 rfl rfl rfl ?_
      refine X_getPe fl_X11_38 (g_K1 G) rfl (g_P1_6 G) dX11_wetCells_38 ?_
      refine X_getPe fl_X11_142 (g_K12 G) rfl (g_P12_1 G) dX11_wetCells_41 ?_
      refine X_getI fl_X11_165 (g_K24 G) rfl dX11_wetCells_44 ?_
      obtain ⟨q3, e4, hm⟩ := ob hm
      refine X_cV1 (ci := 6) (kX7_isWet d (by omega) G (gl9_st G (g_K12 G)) e4) ml_X11_175 mi_X7_isWet rfl cf_6 (gl9_st G (g_K12 G)) rfl rfl (Nat.le_refl _) ⟨Nat.le_refl _, Nat.le_refl _⟩ (Nat.le_of_ble_eq_true rfl) dX11_wetCells_47 ?_
      refine X_if_eq (tgt := 59) dX11_wetCells_50 (by decide) (fun c5 => ?_) (fun c5 => ?_)
      · replace hm := ip c5 hm
        refine X_iinc (lv' := [(2, .int (a2 + 1)), (0, .ref 1), (1, .int a1)]) 2 dX11_wetCells_59 rfl rfl (by decide) rfl ?_
        refine X_goto (tgt := 4) dX11_wetCells_62 (by decide) ?_
        exact X_lv [1, 2, 0] rfl (ih _ _ hm)
      · replace hm := iq c5 hm
        refine X_iload_n 1 dX11_wetCells_53 rfl rfl ?_
        refine X_iconst (v := (1 : Int32)) dX11_wetCells_54 (by decide) ?_
        refine X_iload_n 2 dX11_wetCells_55 rfl rfl ?_
        refine X_ishl dX11_wetCells_56 ?_
        refine X_ior dX11_wetCells_57 ?_
        refine X_istore_n (lv' := [(1, .int (a1 ||| (xshl (1 : Int32) a2))), (0, .ref 1), (2, .int a2)]) dX11_wetCells_58 rfl (by decide) rfl ?_
        refine X_iinc (lv' := [(2, .int (a2 + 1)), (1, .int (a1 ||| (xshl (1 : Int32) a2))), (0, .ref 1)]) 2 dX11_wetCells_59 rfl rfl (by decide) rfl ?_
        refine X_goto (tgt := 4) dX11_wetCells_62 (by decide) ?_
        exact X_lv [2, 1, 0] rfl (ih _ _ hm)
def mX11_wetCells (P : Nat → Nat → Nat) (I : Nat → Nat → Int32) (L : Nat → Nat → Int64)  : Option (Int32) := (mX11_wetCells_4 P I L xf (0 : Int32) (0 : Int32))
set_option maxHeartbeats 400000 in
set_option maxRecDepth 100000 in
theorem kX11_wetCells {E : xE} {B : Nat} {n : Nat} {K : Nat → Nat × Nat} {P : Nat → Nat → Nat} {I : Nat → Nat → Int32} {L : Nat → Nat → Int64}   {q : Int32} (d : Nat) (hd : 2 ≤ d) (G : GW K P)   (hm : mX11_wetCells P I L = some q) : MX E B d 0 0 yX11_wetCells cX11_wetCells 3 (some .int) [.ref 1] (n, K, P, I, L) (some (.int q), (n, K, P, I, L)) := by
  refine MX_of (lv := [(0, .ref 1)]) (by decide +kernel) (Nat.le_of_ble_eq_true rfl) rfl ?_
  obtain ⟨d, rfl⟩ : ∃ d0, d = d0 + 1 := ⟨d - 1, by omega⟩
  unfold mX11_wetCells at hm
  refine X_iconst (v := (0 : Int32)) dX11_wetCells_0 (by decide) ?_
  refine X_istore_n (lv' := [(1, .int (0 : Int32)), (0, .ref 1)]) dX11_wetCells_1 rfl (by decide) rfl ?_
  refine X_iconst (v := (0 : Int32)) dX11_wetCells_2 (by decide) ?_
  refine X_istore_n (lv' := [(2, .int (0 : Int32)), (1, .int (0 : Int32)), (0, .ref 1)]) dX11_wetCells_3 rfl (by decide) rfl ?_
  refine X_lv [2, 1, 0] rfl (kX11_wetCells_4 _ hd G xf _ _  hm)
def mX11_countOfStreet (P : Nat → Nat → Nat) (I : Nat → Nat → Int32) (a1 : Int32) : Option (Int32) := (if a1 = (0 : Int32) then (some (I (P 12 0) 1)) else (if a1 = (1 : Int32) then (some (I (P 12 0) 2)) else (if a1 = (2 : Int32) then (some (I (P 12 0) 3)) else (if a1 = (3 : Int32) then (some (I (P 12 0) 5)) else (if a1 = (4 : Int32) then (some (I (P 12 0) 6)) else (if a1 = (5 : Int32) then (some (I (P 12 0) 7)) else (if a1 = (6 : Int32) then (if (I (P 12 0) 4) = 0 then (some (0 : Int32)) else (some (1 : Int32))) else (some (-1 : Int32)))))))))
set_option maxHeartbeats 400000 in
set_option maxRecDepth 100000 in
theorem kX11_countOfStreet {E : xE} {B : Nat} {n : Nat} {K : Nat → Nat × Nat} {P : Nat → Nat → Nat} {I : Nat → Nat → Int32} {L : Nat → Nat → Int64}  {a1 : Int32} {q : Int32} (d : Nat) (hd : 0 ≤ d) (G : GW K P)   (hm : mX11_countOfStreet P I a1 = some q) : MX E B d 0 0 yX11_countOfStreet cX11_countOfStreet 2 (some .int) [.ref 1, .int a1] (n, K, P, I, L) (some (.int q), (n, K, P, I, L)) := by
  refine MX_of (lv := [(0, .ref 1), (1, .int a1)]) (by decide +kernel) (Nat.le_of_ble_eq_true rfl) rfl ?_
  unfold mX11_countOfStreet at hm
  refine X_iload_n 1 dX11_countOfStreet_0 rfl rfl ?_
  rcases Decidable.em (a1 = (0 : Int32)) with c1 | c1
  · replace hm := ip c1 hm
    refine X_swK (off := 43) (tgt := 44) c1 dX11_countOfStreet_1 (by decide) (by decide) (by decide) (by decide) ?_
    refine X_aload_n 0 dX11_countOfStreet_44 rfl rfl rfl ?_
    refine X_getPe fl_X11_38 (g_K1 G) rfl (g_P1_6 G) dX11_countOfStreet_45 ?_
    refine X_getP fl_X11_116 (g_K12 G) rfl dX11_countOfStreet_48 ?_
    refine X_getI fl_X11_245 (gl9_st G (g_K12 G)) rfl dX11_countOfStreet_51 ?_
    replace hm := Option.some.inj hm
    subst hm
    exact X_iret dX11_countOfStreet_54 rfl
  · replace hm := iq c1 hm
    rcases Decidable.em (a1 = (1 : Int32)) with c2 | c2
    · replace hm := ip c2 hm
      refine X_swK (off := 54) (tgt := 55) c2 dX11_countOfStreet_1 (by decide) (by decide) (by decide) (by decide) ?_
      refine X_aload_n 0 dX11_countOfStreet_55 rfl rfl rfl ?_
      refine X_getPe fl_X11_38 (g_K1 G) rfl (g_P1_6 G) dX11_countOfStreet_56 ?_
      refine X_getP fl_X11_116 (g_K12 G) rfl dX11_countOfStreet_59 ?_
      refine X_getI fl_X11_248 (gl9_st G (g_K12 G)) rfl dX11_countOfStreet_62 ?_
      replace hm := Option.some.inj hm
      subst hm
      exact X_iret dX11_countOfStreet_65 rfl
    · replace hm := iq c2 hm
      rcases Decidable.em (a1 = (2 : Int32)) with c3 | c3
      · replace hm := ip c3 hm
        refine X_swK (off := 65) (tgt := 66) c3 dX11_countOfStreet_1 (by decide) (by decide) (by decide) (by decide) ?_
        refine X_aload_n 0 dX11_countOfStreet_66 rfl rfl rfl ?_
        refine X_getPe fl_X11_38 (g_K1 G) rfl (g_P1_6 G) dX11_countOfStreet_67 ?_
        refine X_getP fl_X11_116 (g_K12 G) rfl dX11_countOfStreet_70 ?_
        refine X_getI fl_X11_251 (gl9_st G (g_K12 G)) rfl dX11_countOfStreet_73 ?_
        replace hm := Option.some.inj hm
        subst hm
        exact X_iret dX11_countOfStreet_76 rfl
      · replace hm := iq c3 hm
        rcases Decidable.em (a1 = (3 : Int32)) with c4 | c4
        · replace hm := ip c4 hm
          refine X_swK (off := 76) (tgt := 77) c4 dX11_countOfStreet_1 (by decide) (by decide) (by decide) (by decide) ?_
          refine X_aload_n 0 dX11_countOfStreet_77 rfl rfl rfl ?_
          refine X_getPe fl_X11_38 (g_K1 G) rfl (g_P1_6 G) dX11_countOfStreet_78 ?_
          refine X_getP fl_X11_116 (g_K12 G) rfl dX11_countOfStreet_81 ?_
          refine X_getI fl_X11_136 (gl9_st G (g_K12 G)) rfl dX11_countOfStreet_84 ?_
          replace hm := Option.some.inj hm
          subst hm
          exact X_iret dX11_countOfStreet_87 rfl
        · replace hm := iq c4 hm
          rcases Decidable.em (a1 = (4 : Int32)) with c5 | c5
          · replace hm := ip c5 hm
            refine X_swK (off := 87) (tgt := 88) c5 dX11_countOfStreet_1 (by decide) (by decide) (by decide) (by decide) ?_
            refine X_aload_n 0 dX11_countOfStreet_88 rfl rfl rfl ?_
            refine X_getPe fl_X11_38 (g_K1 G) rfl (g_P1_6 G) dX11_countOfStreet_89 ?_
            refine X_getP fl_X11_116 (g_K12 G) rfl dX11_countOfStreet_92 ?_
            refine X_getI fl_X11_119 (gl9_st G (g_K12 G)) rfl dX11_countOfStreet_95 ?_
            replace hm := Option.some.inj hm
            subst hm
            exact X_iret dX11_countOfStreet_98 rfl
          · replace hm := iq c5 hm
            rcases Decidable.em (a1 = (5 : Int32)) with c6 | c6
            · replace hm := ip c6 hm
              refine X_swK (off := 98) (tgt := 99) c6 dX11_countOfStreet_1 (by decide) (by decide) (by decide) (by decide) ?_
              refine X_aload_n 0 dX11_countOfStreet_99 rfl rfl rfl ?_
              refine X_getPe fl_X11_38 (g_K1 G) rfl (g_P1_6 G) dX11_countOfStreet_100 ?_
              refine X_getP fl_X11_116 (g_K12 G) rfl dX11_countOfStreet_103 ?_
              refine X_getI fl_X11_139 (gl9_st G (g_K12 G)) rfl dX11_countOfStreet_106 ?_
              replace hm := Option.some.inj hm
              subst hm
              exact X_iret dX11_countOfStreet_109 rfl
            · replace hm := iq c6 hm
              rcases Decidable.em (a1 = (6 : Int32)) with c7 | c7
              · replace hm := ip c7 hm
                refine X_swK (off := 109) (tgt := 110) c7 dX11_countOfStreet_1 (by decide) (by decide) (by decide) (by decide) ?_
                refine X_aload_n 0 dX11_countOfStreet_110 rfl rfl rfl ?_
                refine X_getPe fl_X11_38 (g_K1 G) rfl (g_P1_6 G) dX11_countOfStreet_111 ?_
                refine X_getP fl_X11_116 (g_K12 G) rfl dX11_countOfStreet_114 ?_
                refine X_getI fl_X11_254 (gl9_st G (g_K12 G)) rfl dX11_countOfStreet_117 ?_
                refine X_if_eq (tgt := 127) dX11_countOfStreet_120 (by decide) (fun c8 => ?_) (fun c8 => ?_)
                · replace hm := ip c8 hm
                  refine X_iconst (v := (0 : Int32)) dX11_countOfStreet_127 (by decide) ?_
                  replace hm := Option.some.inj hm
                  subst hm
                  exact X_iret dX11_countOfStreet_128 rfl
                · replace hm := iq c8 hm
                  refine X_iconst (v := (1 : Int32)) dX11_countOfStreet_123 (by decide) ?_
                  refine X_goto (tgt := 128) dX11_countOfStreet_124 (by decide) ?_
                  replace hm := Option.some.inj hm
                  subst hm
                  exact X_iret dX11_countOfStreet_128 rfl
              · replace hm := iq c7 hm
                refine X_tableOut (tgt := 129) dX11_countOfStreet_1 (sw_out 7 (by decide) (fun i hi => by
                  have hi2 : i = 0 ∨ i = 1 ∨ i = 2 ∨ i = 3 ∨ i = 4 ∨ i = 5 ∨ i = 6 := by omega
                  rcases hi2 with rfl | rfl | rfl | rfl | rfl | rfl | rfl
                  · exact c1
                  · exact c2
                  · exact c3
                  · exact c4
                  · exact c5
                  · exact c6
                  · exact c7)) (by decide) ?_
                refine X_iconst (v := (-1 : Int32)) dX11_countOfStreet_129 (by decide) ?_
                replace hm := Option.some.inj hm
                subst hm
                exact X_iret dX11_countOfStreet_130 rfl
def mX11_count (P : Nat → Nat → Nat) (I : Nat → Nat → Int32) (L : Nat → Nat → Int64) (a1 : Int32) : Option (Int32) := (if a1 = (7 : Int32) then (some (I 1 5)) else (if a1 = (8 : Int32) then (some (I 12 9)) else (if a1 = (9 : Int32) then (some (I 24 2)) else (if a1 = (10 : Int32) then (Option.bind (mX11_wetCells P I L) (fun q5 => (some q5))) else (if a1 = (11 : Int32) then (some (I 24 3)) else (if a1 = (12 : Int32) then (some (I 12 7)) else (if a1 = (13 : Int32) then (some (I 12 3)) else (if a1 = (14 : Int32) then (some (I 12 8)) else (if a1 = (15 : Int32) then (some (I 1 1)) else (Option.bind (mX11_countOfStreet P I a1) (fun q12 => (some q12))))))))))))
set_option maxHeartbeats 400000 in
set_option maxRecDepth 100000 in
theorem kX11_count {E : xE} {B : Nat} {n : Nat} {K : Nat → Nat × Nat} {P : Nat → Nat → Nat} {I : Nat → Nat → Int32} {L : Nat → Nat → Int64}  {a1 : Int32} {q : Int32} (d : Nat) (hd : 3 ≤ d) (G : GW K P)   (hm : mX11_count P I L a1 = some q) : MX E B d 0 0 yX11_count cX11_count 2 (some .int) [.ref 1, .int a1] (n, K, P, I, L) (some (.int q), (n, K, P, I, L)) := by
  refine MX_of (lv := [(0, .ref 1), (1, .int a1)]) (by decide +kernel) (Nat.le_of_ble_eq_true rfl) rfl ?_
  obtain ⟨d, rfl⟩ : ∃ d0, d = d0 + 1 := ⟨d - 1, by omega⟩
  unfold mX11_count at hm
  refine X_iload_n 1 dX11_count_0 rfl rfl ?_
  rcases Decidable.em (a1 = (7 : Int32)) with c1 | c1
  · replace hm := ip c1 hm
    refine X_swK (off := 51) (tgt := 52) c1 dX11_count_1 (by decide) (by decide) (by decide) (by decide) ?_
    refine X_aload_n 0 dX11_count_52 rfl rfl rfl ?_
    refine X_getI fl_X11_88 (g_K1 G) rfl dX11_count_53 ?_
    replace hm := Option.some.inj hm
    subst hm
    exact X_iret dX11_count_56 rfl
  · replace hm := iq c1 hm
    rcases Decidable.em (a1 = (8 : Int32)) with c2 | c2
    · replace hm := ip c2 hm
      refine X_swK (off := 56) (tgt := 57) c2 dX11_count_1 (by decide) (by decide) (by decide) (by decide) ?_
      refine X_aload_n 0 dX11_count_57 rfl rfl rfl ?_
      refine X_getPe fl_X11_38 (g_K1 G) rfl (g_P1_6 G) dX11_count_58 ?_
      refine X_getI fl_X11_133 (g_K12 G) rfl dX11_count_61 ?_
      replace hm := Option.some.inj hm
      subst hm
      exact X_iret dX11_count_64 rfl
    · replace hm := iq c2 hm
      rcases Decidable.em (a1 = (9 : Int32)) with c3 | c3
      · replace hm := ip c3 hm
        refine X_swK (off := 64) (tgt := 65) c3 dX11_count_1 (by decide) (by decide) (by decide) (by decide) ?_
        refine X_aload_n 0 dX11_count_65 rfl rfl rfl ?_
        refine X_getPe fl_X11_38 (g_K1 G) rfl (g_P1_6 G) dX11_count_66 ?_
        refine X_getPe fl_X11_142 (g_K12 G) rfl (g_P12_1 G) dX11_count_69 ?_
        refine X_getI fl_X11_165 (g_K24 G) rfl dX11_count_72 ?_
        replace hm := Option.some.inj hm
        subst hm
        exact X_iret dX11_count_75 rfl
      · replace hm := iq c3 hm
        rcases Decidable.em (a1 = (10 : Int32)) with c4 | c4
        · replace hm := ip c4 hm
          refine X_swK (off := 75) (tgt := 76) c4 dX11_count_1 (by decide) (by decide) (by decide) (by decide) ?_
          refine X_aload_n 0 dX11_count_76 rfl rfl rfl ?_
          obtain ⟨q5, e6, hm⟩ := ob hm
          refine X_cV1 (ci := 10) (kX11_wetCells d (by omega) G e6) ml_X11_226 mi_X11_wetCells rfl cf_10 (g_K1 G) rfl rfl (Nat.le_refl _) ⟨Nat.le_refl _, Nat.le_refl _⟩ (Nat.le_of_ble_eq_true rfl) dX11_count_77 ?_
          replace hm := Option.some.inj hm
          subst hm
          exact X_iret dX11_count_80 rfl
        · replace hm := iq c4 hm
          rcases Decidable.em (a1 = (11 : Int32)) with c7 | c7
          · replace hm := ip c7 hm
            refine X_swK (off := 80) (tgt := 81) c7 dX11_count_1 (by decide) (by decide) (by decide) (by decide) ?_
            refine X_aload_n 0 dX11_count_81 rfl rfl rfl ?_
            refine X_getPe fl_X11_38 (g_K1 G) rfl (g_P1_6 G) dX11_count_82 ?_
            refine X_getPe fl_X11_142 (g_K12 G) rfl (g_P12_1 G) dX11_count_85 ?_
            refine X_getI fl_X11_230 (g_K24 G) rfl dX11_count_88 ?_
            replace hm := Option.some.inj hm
            subst hm
            exact X_iret dX11_count_91 rfl
          · replace hm := iq c7 hm
            rcases Decidable.em (a1 = (12 : Int32)) with c8 | c8
            · replace hm := ip c8 hm
              refine X_swK (off := 91) (tgt := 92) c8 dX11_count_1 (by decide) (by decide) (by decide) (by decide) ?_
              refine X_aload_n 0 dX11_count_92 rfl rfl rfl ?_
              refine X_getPe fl_X11_38 (g_K1 G) rfl (g_P1_6 G) dX11_count_93 ?_
              refine X_getI fl_X11_233 (g_K12 G) rfl dX11_count_96 ?_
              replace hm := Option.some.inj hm
              subst hm
              exact X_iret dX11_count_99 rfl
            · replace hm := iq c8 hm
              rcases Decidable.em (a1 = (13 : Int32)) with c9 | c9
              · replace hm := ip c9 hm
                refine X_swK (off := 99) (tgt := 100) c9 dX11_count_1 (by decide) (by decide) (by decide) (by decide) ?_
                refine X_aload_n 0 dX11_count_100 rfl rfl rfl ?_
                refine X_getPe fl_X11_38 (g_K1 G) rfl (g_P1_6 G) dX11_count_101 ?_
                refine X_getI fl_X11_236 (g_K12 G) rfl dX11_count_104 ?_
                replace hm := Option.some.inj hm
                subst hm
                exact X_iret dX11_count_107 rfl
              · replace hm := iq c9 hm
                rcases Decidable.em (a1 = (14 : Int32)) with c10 | c10
                · replace hm := ip c10 hm
                  refine X_swK (off := 107) (tgt := 108) c10 dX11_count_1 (by decide) (by decide) (by decide) (by decide) ?_
                  refine X_aload_n 0 dX11_count_108 rfl rfl rfl ?_
                  refine X_getPe fl_X11_38 (g_K1 G) rfl (g_P1_6 G) dX11_count_109 ?_
                  refine X_getI fl_X11_239 (g_K12 G) rfl dX11_count_112 ?_
                  replace hm := Option.some.inj hm
                  subst hm
                  exact X_iret dX11_count_115 rfl
                · replace hm := iq c10 hm
                  rcases Decidable.em (a1 = (15 : Int32)) with c11 | c11
                  · replace hm := ip c11 hm
                    refine X_swK (off := 115) (tgt := 116) c11 dX11_count_1 (by decide) (by decide) (by decide) (by decide) ?_
                    refine X_aload_n 0 dX11_count_116 rfl rfl rfl ?_
                    refine X_getI fl_X11_84 (g_K1 G) rfl dX11_count_117 ?_
                    replace hm := Option.some.inj hm
                    subst hm
                    exact X_iret dX11_count_120 rfl
                  · replace hm := iq c11 hm
                    refine X_tableOut (tgt := 121) dX11_count_1 (sw_out 9 (by decide) (fun i hi => by
                      have hi2 : i = 0 ∨ i = 1 ∨ i = 2 ∨ i = 3 ∨ i = 4 ∨ i = 5 ∨ i = 6 ∨ i = 7 ∨ i = 8 := by omega
                      rcases hi2 with rfl | rfl | rfl | rfl | rfl | rfl | rfl | rfl | rfl
                      · exact c1
                      · exact c2
                      · exact c3
                      · exact c4
                      · exact c7
                      · exact c8
                      · exact c9
                      · exact c10
                      · exact c11)) (by decide) ?_
                    refine X_aload_n 0 dX11_count_121 rfl rfl rfl ?_
                    refine X_iload_n 1 dX11_count_122 rfl rfl ?_
                    obtain ⟨q12, e13, hm⟩ := ob hm
                    refine X_cV1 (ci := 10) (kX11_countOfStreet d (by omega) G e13) ml_X11_242 mi_X11_countOfStreet rfl cf_10 (g_K1 G) rfl rfl (Nat.le_refl _) ⟨Nat.le_refl _, Nat.le_refl _⟩ (Nat.le_of_ble_eq_true rfl) dX11_count_123 ?_
                    replace hm := Option.some.inj hm
                    subst hm
                    exact X_iret dX11_count_126 rfl
def mX11_hour (K : Nat → Nat × Nat) (P : Nat → Nat → Nat) (I : Nat → Nat → Int32) (L : Nat → Nat → Int64) : Option (Int32 × (Nat → Nat → Nat) × (Nat → Nat → Int32) × (Nat → Nat → Int64)) := (if (I (P 12 0) 0) = 0 then (some ((-1 : Int32), P, I, L)) else (if (I 24 2) < (999 : Int32) then (Option.bind (mX10_keep P I L) (fun q3 => (Option.bind (mX11_ruleOf q3.1 q3.2.1 (q3.2.1 12 9)) (fun q6 => (Option.bind (mX2_pass K q3.2.1 q3.2.2 (q3.1 12 0) 24 q6) (fun q8 => (some (q8.1, q3.1, q8.2.1, q8.2.2)))))))) else (some ((-1 : Int32), P, I, L))))
set_option maxHeartbeats 400000 in
set_option maxRecDepth 100000 in
theorem kX11_hour {E : xE} {B : Nat} {n : Nat} {K : Nat → Nat × Nat} {P : Nat → Nat → Nat} {I : Nat → Nat → Int32} {L : Nat → Nat → Int64}   {q : Int32 × (Nat → Nat → Nat) × (Nat → Nat → Int32) × (Nat → Nat → Int64)} (d : Nat) (hd : 6 ≤ d) (G : GW K P)   (hm : mX11_hour K P I L = some q) : MX E B d 0 0 yX11_hour cX11_hour 1 (some .int) [.ref 1] (n, K, P, I, L) (some (.int q.1), (n, K, q.2.1, q.2.2.1, q.2.2.2)) := by
  refine MX_of (lv := [(0, .ref 1)]) (by decide +kernel) (Nat.le_of_ble_eq_true rfl) rfl ?_
  obtain ⟨d, rfl⟩ : ∃ d0, d = d0 + 1 := ⟨d - 1, by omega⟩
  unfold mX11_hour at hm
  refine X_aload_n 0 dX11_hour_0 rfl rfl rfl ?_
  refine X_getPe fl_X11_38 (g_K1 G) rfl (g_P1_6 G) dX11_hour_1 ?_
  refine X_getP fl_X11_116 (g_K12 G) rfl dX11_hour_4 ?_
  refine X_getI fl_X11_219 (gl9_st G (g_K12 G)) rfl dX11_hour_7 ?_
  refine X_if_eq (tgt := 29) dX11_hour_10 (by decide) (fun c1 => ?_) (fun c1 => ?_)
  · replace hm := ip c1 hm
    refine X_iconst (v := (-1 : Int32)) dX11_hour_29 (by decide) ?_
    replace hm := Option.some.inj hm
    subst hm
    exact X_iret dX11_hour_30 rfl
  · replace hm := iq c1 hm
    refine X_aload_n 0 dX11_hour_13 rfl rfl rfl ?_
    refine X_getPe fl_X11_38 (g_K1 G) rfl (g_P1_6 G) dX11_hour_14 ?_
    refine X_getPe fl_X11_142 (g_K12 G) rfl (g_P12_1 G) dX11_hour_17 ?_
    refine X_getI fl_X11_165 (g_K24 G) rfl dX11_hour_20 ?_
    refine X_sipush (v := (999 : Int32)) dX11_hour_23 (by decide) ?_
    refine X_icmp_lt (tgt := 31) dX11_hour_26 (by decide) (fun c2 => ?_) (fun c2 => ?_)
    · replace hm := ip c2 hm
      refine X_aload_n 0 dX11_hour_31 rfl rfl rfl ?_
      refine X_getPe fl_X11_38 (g_K1 G) rfl (g_P1_6 G) dX11_hour_32 ?_
      obtain ⟨q3, e4, hm⟩ := ob hm
      refine X_cV0 (ci := 9) (kX10_keep d (by omega) G e4) ml_X11_257 mi_X10_keep rfl cf_9 (g_K12 G) rfl rfl (Nat.le_refl _) ⟨Nat.le_refl _, Nat.le_refl _⟩ (Nat.le_of_ble_eq_true rfl) dX11_hour_35 ?_
      have G5 := gw_X10_keep G e4
      refine X_aload_n 0 dX11_hour_38 rfl rfl rfl ?_
      refine X_getPe fl_X11_56 (g_K1 G5) rfl (g_P1_9 G5) dX11_hour_39 ?_
      refine X_aload_n 0 dX11_hour_42 rfl rfl rfl ?_
      refine X_getPe fl_X11_38 (g_K1 G5) rfl (g_P1_6 G5) dX11_hour_43 ?_
      refine X_getP fl_X11_116 (g_K12 G5) rfl dX11_hour_46 ?_
      refine X_aload_n 0 dX11_hour_49 rfl rfl rfl ?_
      refine X_getPe fl_X11_38 (g_K1 G5) rfl (g_P1_6 G5) dX11_hour_50 ?_
      refine X_getPe fl_X11_142 (g_K12 G5) rfl (g_P12_1 G5) dX11_hour_53 ?_
      refine X_aload_n 0 dX11_hour_56 rfl rfl rfl ?_
      refine X_aload_n 0 dX11_hour_57 rfl rfl rfl ?_
      refine X_getPe fl_X11_38 (g_K1 G5) rfl (g_P1_6 G5) dX11_hour_58 ?_
      refine X_getI fl_X11_133 (g_K12 G5) rfl dX11_hour_61 ?_
      obtain ⟨q6, e7, hm⟩ := ob hm
      refine X_cV1 (ci := 10) (kX11_ruleOf d (by omega) G5 e7) ml_X11_260 mi_X11_ruleOf rfl cf_10 (g_K1 G5) rfl rfl (Nat.le_refl _) ⟨Nat.le_refl _, Nat.le_refl _⟩ (Nat.le_of_ble_eq_true rfl) dX11_hour_64 ?_
      obtain ⟨q8, e9, hm⟩ := ob hm
      refine X_cV1 (ci := 1) (kX2_pass d (by omega) G5 (gl9_st G5 (g_K12 G5)) (g_K24 G5) (rf_ruleOf G5 e7) e9) ml_X11_264 mi_X2_pass rfl cf_1 (g_K95 G5) rfl rfl (Nat.le_refl _) ⟨Nat.le_refl _, Nat.le_refl _⟩ (Nat.le_of_ble_eq_true rfl) dX11_hour_67 ?_
      replace hm := Option.some.inj hm
      subst hm
      exact X_iret dX11_hour_70 rfl
    · replace hm := iq c2 hm
      refine X_iconst (v := (-1 : Int32)) dX11_hour_29 (by decide) ?_
      replace hm := Option.some.inj hm
      subst hm
      exact X_iret dX11_hour_30 rfl
def mX11_paint  (P : Nat → Nat → Nat) (I : Nat → Nat → Int32) (L : Nat → Nat → Int64) (a1 : Int32) (a2 : Int32) : Option (Int32 × (Nat → Nat → Nat) × (Nat → Nat → Int32) × (Nat → Nat → Int64)) := (Option.bind (mX11_isCell P I a1) (fun q1 => (if q1 = 0 then (some ((-1 : Int32), P, I, L)) else (Option.bind (mX11_isPainter P I a2) (fun q4 => (if q4 = 0 then (some ((-1 : Int32), P, I, L)) else (Option.bind (mX7_canPaint I (P 12 0) 24 a1 a2) (fun q7 => (if q7 = 0 then (some ((-1 : Int32), P, I, L)) else (Option.bind (mX10_keep P I L) (fun q10 => (Option.bind (mX7_putCoat q10.2.1 q10.2.2 (q10.1 12 0) 24 a1 a2) (fun q13 => (if inb a1 16 = true then (Option.bind (mX0_height (q13.2 25 (ix a1))) (fun q16 => (some (q16, q10.1, q13.1, q13.2)))) else none))))))))))))))
set_option maxHeartbeats 400000 in
set_option maxRecDepth 100000 in
theorem kX11_paint {E : xE} {B : Nat} {n : Nat} {K : Nat → Nat × Nat} {P : Nat → Nat → Nat} {I : Nat → Nat → Int32} {L : Nat → Nat → Int64}  {a1 : Int32} {a2 : Int32} {q : Int32 × (Nat → Nat → Nat) × (Nat → Nat → Int32) × (Nat → Nat → Int64)} (d : Nat) (hd : 3 ≤ d) (G : GW K P)   (hm : mX11_paint P I L a1 a2 = some q) : MX E B d 0 0 yX11_paint cX11_paint 3 (some .int) [.ref 1, .int a1, .int a2] (n, K, P, I, L) (some (.int q.1), (n, K, q.2.1, q.2.2.1, q.2.2.2)) := by
  refine MX_of (lv := [(0, .ref 1), (1, .int a1), (2, .int a2)]) (by decide +kernel) (Nat.le_of_ble_eq_true rfl) rfl ?_
  obtain ⟨d, rfl⟩ : ∃ d0, d = d0 + 1 := ⟨d - 1, by omega⟩
  unfold mX11_paint at hm
  refine X_aload_n 0 dX11_paint_0 rfl rfl rfl ?_
  refine X_iload_n 1 dX11_paint_1 rfl rfl ?_
  obtain ⟨q1, e2, hm⟩ := ob hm
  refine X_cV1 (ci := 10) (kX11_isCell d (by omega) G e2) ml_X11_149 mi_X11_isCell rfl cf_10 (g_K1 G) rfl rfl (Nat.le_refl _) ⟨Nat.le_refl _, Nat.le_refl _⟩ (Nat.le_of_ble_eq_true rfl) dX11_paint_2 ?_
  refine X_if_eq (tgt := 38) dX11_paint_5 (by decide) (fun c3 => ?_) (fun c3 => ?_)
  · replace hm := ip c3 hm
    refine X_iconst (v := (-1 : Int32)) dX11_paint_38 (by decide) ?_
    replace hm := Option.some.inj hm
    subst hm
    exact X_iret dX11_paint_39 rfl
  · replace hm := iq c3 hm
    refine X_aload_n 0 dX11_paint_8 rfl rfl rfl ?_
    refine X_iload_n 2 dX11_paint_9 rfl rfl ?_
    obtain ⟨q4, e5, hm⟩ := ob hm
    refine X_cV1 (ci := 10) (kX11_isPainter d (by omega) G e5) ml_X11_183 mi_X11_isPainter rfl cf_10 (g_K1 G) rfl rfl (Nat.le_refl _) ⟨Nat.le_refl _, Nat.le_refl _⟩ (Nat.le_of_ble_eq_true rfl) dX11_paint_10 ?_
    refine X_if_eq (tgt := 38) dX11_paint_13 (by decide) (fun c6 => ?_) (fun c6 => ?_)
    · replace hm := ip c6 hm
      refine X_iconst (v := (-1 : Int32)) dX11_paint_38 (by decide) ?_
      replace hm := Option.some.inj hm
      subst hm
      exact X_iret dX11_paint_39 rfl
    · replace hm := iq c6 hm
      refine X_aload_n 0 dX11_paint_16 rfl rfl rfl ?_
      refine X_getPe fl_X11_38 (g_K1 G) rfl (g_P1_6 G) dX11_paint_17 ?_
      refine X_getP fl_X11_116 (g_K12 G) rfl dX11_paint_20 ?_
      refine X_aload_n 0 dX11_paint_23 rfl rfl rfl ?_
      refine X_getPe fl_X11_38 (g_K1 G) rfl (g_P1_6 G) dX11_paint_24 ?_
      refine X_getPe fl_X11_142 (g_K12 G) rfl (g_P12_1 G) dX11_paint_27 ?_
      refine X_iload_n 1 dX11_paint_30 rfl rfl ?_
      refine X_iload_n 2 dX11_paint_31 rfl rfl ?_
      obtain ⟨q7, e8, hm⟩ := ob hm
      refine X_cV1 (ci := 6) (kX7_canPaint d (by omega) G (gl9_st G (g_K12 G)) (g_K24 G) e8) ml_X11_268 mi_X7_canPaint rfl cf_6 (gl9_st G (g_K12 G)) rfl rfl (Nat.le_refl _) ⟨Nat.le_refl _, Nat.le_refl _⟩ (Nat.le_of_ble_eq_true rfl) dX11_paint_32 ?_
      refine X_if_ne (tgt := 40) dX11_paint_35 (by decide) (fun c9 => ?_) (fun c9 => ?_)
      · replace hm := iq c9 hm
        refine X_aload_n 0 dX11_paint_40 rfl rfl rfl ?_
        refine X_getPe fl_X11_38 (g_K1 G) rfl (g_P1_6 G) dX11_paint_41 ?_
        obtain ⟨q10, e11, hm⟩ := ob hm
        refine X_cV0 (ci := 9) (kX10_keep d (by omega) G e11) ml_X11_257 mi_X10_keep rfl cf_9 (g_K12 G) rfl rfl (Nat.le_refl _) ⟨Nat.le_refl _, Nat.le_refl _⟩ (Nat.le_of_ble_eq_true rfl) dX11_paint_44 ?_
        have G12 := gw_X10_keep G e11
        refine X_aload_n 0 dX11_paint_47 rfl rfl rfl ?_
        refine X_getPe fl_X11_38 (g_K1 G12) rfl (g_P1_6 G12) dX11_paint_48 ?_
        refine X_getP fl_X11_116 (g_K12 G12) rfl dX11_paint_51 ?_
        refine X_aload_n 0 dX11_paint_54 rfl rfl rfl ?_
        refine X_getPe fl_X11_38 (g_K1 G12) rfl (g_P1_6 G12) dX11_paint_55 ?_
        refine X_getPe fl_X11_142 (g_K12 G12) rfl (g_P12_1 G12) dX11_paint_58 ?_
        refine X_iload_n 1 dX11_paint_61 rfl rfl ?_
        refine X_iload_n 2 dX11_paint_62 rfl rfl ?_
        obtain ⟨q13, e14, hm⟩ := ob hm
        refine X_cV0 (ci := 6) (kX7_putCoat d (by omega) G12 (gl9_st G12 (g_K12 G12)) (g_K24 G12) e14) ml_X11_272 mi_X7_putCoat rfl cf_6 (gl9_st G12 (g_K12 G12)) rfl rfl (Nat.le_refl _) ⟨Nat.le_refl _, Nat.le_refl _⟩ (Nat.le_of_ble_eq_true rfl) dX11_paint_63 ?_
        refine X_aload_n 0 dX11_paint_66 rfl rfl rfl ?_
        refine X_getPe fl_X11_38 (g_K1 G12) rfl (g_P1_6 G12) dX11_paint_67 ?_
        refine X_getPe fl_X11_142 (g_K12 G12) rfl (g_P12_1 G12) dX11_paint_70 ?_
        refine X_getPe fl_X11_152 (g_K24 G12) rfl (g_P24_0 G12) dX11_paint_73 ?_
        refine X_iload_n 1 dX11_paint_76 rfl rfl ?_
        obtain ⟨g15, hm⟩ := og hm
        refine X_laldJ (g_K25 G12) g15 rfl dX11_paint_77 ?_
        obtain ⟨q16, e17, hm⟩ := ob hm
        refine X_cS1 (kX0_height d (by omega) G12 e17) ml_X11_159 ms_X0_height rfl rfl (Nat.le_refl _) ⟨Nat.le_refl _, Nat.le_refl _⟩ (Nat.le_of_ble_eq_true rfl) dX11_paint_78 ?_
        replace hm := Option.some.inj hm
        subst hm
        exact X_iret dX11_paint_81 rfl
      · replace hm := ip c9 hm
        refine X_iconst (v := (-1 : Int32)) dX11_paint_38 (by decide) ?_
        replace hm := Option.some.inj hm
        subst hm
        exact X_iret dX11_paint_39 rfl
def mX11_scrape  (P : Nat → Nat → Nat) (I : Nat → Nat → Int32) (L : Nat → Nat → Int64) (a1 : Int32) : Option (Int32 × (Nat → Nat → Nat) × (Nat → Nat → Int32) × (Nat → Nat → Int64)) := (Option.bind (mX11_isCell P I a1) (fun q1 => (if q1 = 0 then (some ((-1 : Int32), P, I, L)) else (if inb a1 16 = true then (if (lg_cmp (L 25 (ix a1)) (0 : Int64)) = 0 then (some ((-1 : Int32), P, I, L)) else (Option.bind (mX10_keep P I L) (fun q6 => (if inb a1 16 = true then (Option.bind (mX0_topPainter (q6.2.2 25 (ix a1))) (fun q10 => (if inb a1 16 = true then (Option.bind (mX0_without (q6.2.2 25 (ix a1)) (1 : Int32)) (fun q13 => (if inb a1 16 = true then (some (q10, q6.1, q6.2.1, (xu q6.2.2 25 (ix a1) q13))) else none))) else none))) else none)))) else none))))
set_option maxHeartbeats 400000 in
set_option maxRecDepth 100000 in
theorem kX11_scrape {E : xE} {B : Nat} {n : Nat} {K : Nat → Nat × Nat} {P : Nat → Nat → Nat} {I : Nat → Nat → Int32} {L : Nat → Nat → Int64}  {a1 : Int32} {q : Int32 × (Nat → Nat → Nat) × (Nat → Nat → Int32) × (Nat → Nat → Int64)} (d : Nat) (hd : 3 ≤ d) (G : GW K P)   (hm : mX11_scrape P I L a1 = some q) : MX E B d 0 0 yX11_scrape cX11_scrape 3 (some .int) [.ref 1, .int a1] (n, K, P, I, L) (some (.int q.1), (n, K, q.2.1, q.2.2.1, q.2.2.2)) := by
  refine MX_of (lv := [(0, .ref 1), (1, .int a1)]) (by decide +kernel) (Nat.le_of_ble_eq_true rfl) rfl ?_
  obtain ⟨d, rfl⟩ : ∃ d0, d = d0 + 1 := ⟨d - 1, by omega⟩
  unfold mX11_scrape at hm
  refine X_aload_n 0 dX11_scrape_0 rfl rfl rfl ?_
  refine X_iload_n 1 dX11_scrape_1 rfl rfl ?_
  obtain ⟨q1, e2, hm⟩ := ob hm
  refine X_cV1 (ci := 10) (kX11_isCell d (by omega) G e2) ml_X11_149 mi_X11_isCell rfl cf_10 (g_K1 G) rfl rfl (Nat.le_refl _) ⟨Nat.le_refl _, Nat.le_refl _⟩ (Nat.le_of_ble_eq_true rfl) dX11_scrape_2 ?_
  refine X_if_eq (tgt := 25) dX11_scrape_5 (by decide) (fun c3 => ?_) (fun c3 => ?_)
  · replace hm := ip c3 hm
    refine X_iconst (v := (-1 : Int32)) dX11_scrape_25 (by decide) ?_
    replace hm := Option.some.inj hm
    subst hm
    exact X_iret dX11_scrape_26 rfl
  · replace hm := iq c3 hm
    refine X_aload_n 0 dX11_scrape_8 rfl rfl rfl ?_
    refine X_getPe fl_X11_38 (g_K1 G) rfl (g_P1_6 G) dX11_scrape_9 ?_
    refine X_getPe fl_X11_142 (g_K12 G) rfl (g_P12_1 G) dX11_scrape_12 ?_
    refine X_getPe fl_X11_152 (g_K24 G) rfl (g_P24_0 G) dX11_scrape_15 ?_
    refine X_iload_n 1 dX11_scrape_18 rfl rfl ?_
    obtain ⟨g4, hm⟩ := og hm
    refine X_laldJ (g_K25 G) g4 rfl dX11_scrape_19 ?_
    refine X_lconst (v := (0 : Int64)) dX11_scrape_20 (by decide) ?_
    refine X_lcmp dX11_scrape_21 ?_
    refine X_if_ne (tgt := 27) dX11_scrape_22 (by decide) (fun c5 => ?_) (fun c5 => ?_)
    · replace hm := iq c5 hm
      refine X_aload_n 0 dX11_scrape_27 rfl rfl rfl ?_
      refine X_getPe fl_X11_38 (g_K1 G) rfl (g_P1_6 G) dX11_scrape_28 ?_
      obtain ⟨q6, e7, hm⟩ := ob hm
      refine X_cV0 (ci := 9) (kX10_keep d (by omega) G e7) ml_X11_257 mi_X10_keep rfl cf_9 (g_K12 G) rfl rfl (Nat.le_refl _) ⟨Nat.le_refl _, Nat.le_refl _⟩ (Nat.le_of_ble_eq_true rfl) dX11_scrape_31 ?_
      have G8 := gw_X10_keep G e7
      refine X_aload_n 0 dX11_scrape_34 rfl rfl rfl ?_
      refine X_getPe fl_X11_38 (g_K1 G8) rfl (g_P1_6 G8) dX11_scrape_35 ?_
      refine X_getPe fl_X11_142 (g_K12 G8) rfl (g_P12_1 G8) dX11_scrape_38 ?_
      refine X_getPe fl_X11_152 (g_K24 G8) rfl (g_P24_0 G8) dX11_scrape_41 ?_
      refine X_iload_n 1 dX11_scrape_44 rfl rfl ?_
      obtain ⟨g9, hm⟩ := og hm
      refine X_laldJ (g_K25 G8) g9 rfl dX11_scrape_45 ?_
      obtain ⟨q10, e11, hm⟩ := ob hm
      refine X_cS1 (kX0_topPainter d (by omega) G8 e11) ml_X11_172 ms_X0_topPainter rfl rfl (Nat.le_refl _) ⟨Nat.le_refl _, Nat.le_refl _⟩ (Nat.le_of_ble_eq_true rfl) dX11_scrape_46 ?_
      refine X_istore_n (lv' := [(2, .int q10), (0, .ref 1), (1, .int a1)]) dX11_scrape_49 rfl (by decide) rfl ?_
      refine X_aload_n 1 dX11_scrape_50 rfl rfl rfl ?_
      refine X_getPe fl_X11_38 (g_K1 G8) rfl (g_P1_6 G8) dX11_scrape_51 ?_
      refine X_getPe fl_X11_142 (g_K12 G8) rfl (g_P12_1 G8) dX11_scrape_54 ?_
      refine X_getPe fl_X11_152 (g_K24 G8) rfl (g_P24_0 G8) dX11_scrape_57 ?_
      refine X_iload_n 2 dX11_scrape_60 rfl rfl ?_
      refine X_aload_n 1 dX11_scrape_61 rfl rfl rfl ?_
      refine X_getPe fl_X11_38 (g_K1 G8) rfl (g_P1_6 G8) dX11_scrape_62 ?_
      refine X_getPe fl_X11_142 (g_K12 G8) rfl (g_P12_1 G8) dX11_scrape_65 ?_
      refine X_getPe fl_X11_152 (g_K24 G8) rfl (g_P24_0 G8) dX11_scrape_68 ?_
      refine X_iload_n 2 dX11_scrape_71 rfl rfl ?_
      obtain ⟨g12, hm⟩ := og hm
      refine X_laldJ (g_K25 G8) g12 rfl dX11_scrape_72 ?_
      refine X_iconst (v := (1 : Int32)) dX11_scrape_73 (by decide) ?_
      obtain ⟨q13, e14, hm⟩ := ob hm
      refine X_cS1 (kX0_without d (by omega) G8 e14) ml_X11_179 ms_X0_without rfl rfl (Nat.le_refl _) ⟨Nat.le_refl _, Nat.le_refl _⟩ (Nat.le_of_ble_eq_true rfl) dX11_scrape_74 ?_
      obtain ⟨g15, hm⟩ := og hm
      refine X_lastJ (g_K25 G8) g15 rfl dX11_scrape_77 ?_
      refine X_iload_n 0 dX11_scrape_78 rfl rfl ?_
      replace hm := Option.some.inj hm
      subst hm
      exact X_iret dX11_scrape_79 rfl
    · replace hm := ip c5 hm
      refine X_iconst (v := (-1 : Int32)) dX11_scrape_25 (by decide) ?_
      replace hm := Option.some.inj hm
      subst hm
      exact X_iret dX11_scrape_26 rfl
def mX11_vote  (P : Nat → Nat → Nat) (I : Nat → Nat → Int32) (L : Nat → Nat → Int64) (a1 : Int32) : Option (Int32 × (Nat → Nat → Nat) × (Nat → Nat → Int32) × (Nat → Nat → Int64)) := (Option.bind (mX11_isThing P I a1) (fun q1 => (if q1 = 0 then (some ((-1 : Int32), P, I, L)) else (Option.bind (mX11_isBare I a1) (fun q4 => (if q4 = 0 then (Option.bind (mX10_keep P I L) (fun q7 => (Option.bind (mX7_strip (xu q7.2.1 24 3 ((q7.2.1 24 3) ||| (xshl (1 : Int32) a1))) q7.2.2 (q7.1 12 0) 24 a1) (fun q10 => (some (q10.1, q7.1, (xu q7.2.1 24 3 ((q7.2.1 24 3) ||| (xshl (1 : Int32) a1))), q10.2)))))) else (some ((-1 : Int32), P, I, L))))))))
set_option maxHeartbeats 400000 in
set_option maxRecDepth 100000 in
theorem kX11_vote {E : xE} {B : Nat} {n : Nat} {K : Nat → Nat × Nat} {P : Nat → Nat → Nat} {I : Nat → Nat → Int32} {L : Nat → Nat → Int64}  {a1 : Int32} {q : Int32 × (Nat → Nat → Nat) × (Nat → Nat → Int32) × (Nat → Nat → Int64)} (d : Nat) (hd : 3 ≤ d) (G : GW K P)   (hm : mX11_vote P I L a1 = some q) : MX E B d 0 0 yX11_vote cX11_vote 2 (some .int) [.ref 1, .int a1] (n, K, P, I, L) (some (.int q.1), (n, K, q.2.1, q.2.2.1, q.2.2.2)) := by
  refine MX_of (lv := [(0, .ref 1), (1, .int a1)]) (by decide +kernel) (Nat.le_of_ble_eq_true rfl) rfl ?_
  obtain ⟨d, rfl⟩ : ∃ d0, d = d0 + 1 := ⟨d - 1, by omega⟩
  unfold mX11_vote at hm
  refine X_aload_n 0 dX11_vote_0 rfl rfl rfl ?_
  refine X_iload_n 1 dX11_vote_1 rfl rfl ?_
  obtain ⟨q1, e2, hm⟩ := ob hm
  refine X_cV1 (ci := 10) (kX11_isThing d (by omega) G e2) ml_X11_192 mi_X11_isThing rfl cf_10 (g_K1 G) rfl rfl (Nat.le_refl _) ⟨Nat.le_refl _, Nat.le_refl _⟩ (Nat.le_of_ble_eq_true rfl) dX11_vote_2 ?_
  refine X_if_eq (tgt := 16) dX11_vote_5 (by decide) (fun c3 => ?_) (fun c3 => ?_)
  · replace hm := ip c3 hm
    refine X_iconst (v := (-1 : Int32)) dX11_vote_16 (by decide) ?_
    replace hm := Option.some.inj hm
    subst hm
    exact X_iret dX11_vote_17 rfl
  · replace hm := iq c3 hm
    refine X_aload_n 0 dX11_vote_8 rfl rfl rfl ?_
    refine X_iload_n 1 dX11_vote_9 rfl rfl ?_
    obtain ⟨q4, e5, hm⟩ := ob hm
    refine X_cV1 (ci := 10) (kX11_isBare d (by omega) G e5) ml_X11_208 mi_X11_isBare rfl cf_10 (g_K1 G) rfl rfl (Nat.le_refl _) ⟨Nat.le_refl _, Nat.le_refl _⟩ (Nat.le_of_ble_eq_true rfl) dX11_vote_10 ?_
    refine X_if_eq (tgt := 18) dX11_vote_13 (by decide) (fun c6 => ?_) (fun c6 => ?_)
    · replace hm := ip c6 hm
      refine X_aload_n 0 dX11_vote_18 rfl rfl rfl ?_
      refine X_getPe fl_X11_38 (g_K1 G) rfl (g_P1_6 G) dX11_vote_19 ?_
      obtain ⟨q7, e8, hm⟩ := ob hm
      refine X_cV0 (ci := 9) (kX10_keep d (by omega) G e8) ml_X11_257 mi_X10_keep rfl cf_9 (g_K12 G) rfl rfl (Nat.le_refl _) ⟨Nat.le_refl _, Nat.le_refl _⟩ (Nat.le_of_ble_eq_true rfl) dX11_vote_22 ?_
      have G9 := gw_X10_keep G e8
      refine X_aload_n 0 dX11_vote_25 rfl rfl rfl ?_
      refine X_getPe fl_X11_38 (g_K1 G9) rfl (g_P1_6 G9) dX11_vote_26 ?_
      refine X_getPe fl_X11_142 (g_K12 G9) rfl (g_P12_1 G9) dX11_vote_29 ?_
      refine X_dup dX11_vote_32 rfl ?_
      refine X_getI fl_X11_230 (g_K24 G9) rfl dX11_vote_33 ?_
      refine X_iconst (v := (1 : Int32)) dX11_vote_36 (by decide) ?_
      refine X_iload_n 1 dX11_vote_37 rfl rfl ?_
      refine X_ishl dX11_vote_38 ?_
      refine X_ior dX11_vote_39 ?_
      refine X_putI fl_X11_230 (g_K24 G9) rfl rfl dX11_vote_40 ?_
      refine X_aload_n 0 dX11_vote_43 rfl rfl rfl ?_
      refine X_getPe fl_X11_38 (g_K1 G9) rfl (g_P1_6 G9) dX11_vote_44 ?_
      refine X_getP fl_X11_116 (g_K12 G9) rfl dX11_vote_47 ?_
      refine X_aload_n 0 dX11_vote_50 rfl rfl rfl ?_
      refine X_getPe fl_X11_38 (g_K1 G9) rfl (g_P1_6 G9) dX11_vote_51 ?_
      refine X_getPe fl_X11_142 (g_K12 G9) rfl (g_P12_1 G9) dX11_vote_54 ?_
      refine X_iload_n 1 dX11_vote_57 rfl rfl ?_
      obtain ⟨q10, e11, hm⟩ := ob hm
      refine X_cV1 (ci := 6) (kX7_strip d (by omega) G9 (gl9_st G9 (g_K12 G9)) (g_K24 G9) e11) ml_X11_276 mi_X7_strip rfl cf_6 (gl9_st G9 (g_K12 G9)) rfl rfl (Nat.le_refl _) ⟨Nat.le_refl _, Nat.le_refl _⟩ (Nat.le_of_ble_eq_true rfl) dX11_vote_58 ?_
      replace hm := Option.some.inj hm
      subst hm
      exact X_iret dX11_vote_61 rfl
    · replace hm := iq c6 hm
      refine X_iconst (v := (-1 : Int32)) dX11_vote_16 (by decide) ?_
      replace hm := Option.some.inj hm
      subst hm
      exact X_iret dX11_vote_17 rfl
def mX11_undo (P : Nat → Nat → Nat) (I : Nat → Nat → Int32) (L : Nat → Nat → Int64) : Option (Int32 × (Nat → Nat → Int32) × (Nat → Nat → Int64)) := (Option.bind (mX10_takeBack P I L) (fun q1 => (if q1.1 = 0 then (some ((-2 : Int32), q1.2.1, q1.2.2)) else (some ((q1.2.1 12 3), q1.2.1, q1.2.2)))))
set_option maxHeartbeats 400000 in
set_option maxRecDepth 100000 in
theorem kX11_undo {E : xE} {B : Nat} {n : Nat} {K : Nat → Nat × Nat} {P : Nat → Nat → Nat} {I : Nat → Nat → Int32} {L : Nat → Nat → Int64}   {q : Int32 × (Nat → Nat → Int32) × (Nat → Nat → Int64)} (d : Nat) (hd : 3 ≤ d) (G : GW K P)   (hm : mX11_undo P I L = some q) : MX E B d 0 0 yX11_undo cX11_undo 1 (some .int) [.ref 1] (n, K, P, I, L) (some (.int q.1), (n, K, P, q.2.1, q.2.2)) := by
  refine MX_of (lv := [(0, .ref 1)]) (by decide +kernel) (Nat.le_of_ble_eq_true rfl) rfl ?_
  obtain ⟨d, rfl⟩ : ∃ d0, d = d0 + 1 := ⟨d - 1, by omega⟩
  unfold mX11_undo at hm
  refine X_aload_n 0 dX11_undo_0 rfl rfl rfl ?_
  refine X_getPe fl_X11_38 (g_K1 G) rfl (g_P1_6 G) dX11_undo_1 ?_
  obtain ⟨q1, e2, hm⟩ := ob hm
  refine X_cV1 (ci := 9) (kX10_takeBack d (by omega) G e2) ml_X11_279 mi_X10_takeBack rfl cf_9 (g_K12 G) rfl rfl (Nat.le_refl _) ⟨Nat.le_refl _, Nat.le_refl _⟩ (Nat.le_of_ble_eq_true rfl) dX11_undo_4 ?_
  refine X_if_eq (tgt := 20) dX11_undo_7 (by decide) (fun c3 => ?_) (fun c3 => ?_)
  · replace hm := ip c3 hm
    refine X_bipush (v := (-2 : Int32)) dX11_undo_20 (by decide) ?_
    replace hm := Option.some.inj hm
    subst hm
    exact X_iret dX11_undo_22 rfl
  · replace hm := iq c3 hm
    refine X_aload_n 0 dX11_undo_10 rfl rfl rfl ?_
    refine X_getPe fl_X11_38 (g_K1 G) rfl (g_P1_6 G) dX11_undo_11 ?_
    refine X_getI fl_X11_236 (g_K12 G) rfl dX11_undo_14 ?_
    refine X_goto (tgt := 22) dX11_undo_17 (by decide) ?_
    replace hm := Option.some.inj hm
    subst hm
    exact X_iret dX11_undo_22 rfl
def mX11_tryHours_9 (K : Nat → Nat × Nat) (P : Nat → Nat → Nat)  : Nat → (Nat → Nat → Int32) → (Nat → Nat → Int64) → Int32 → Int32 → Option ((Nat → Nat → Int32) × (Nat → Nat → Int64))
  | 0, _, _, _, _ => none
  | f + 1, I, L, a1, a2 => (if a1 ≤ a2 then (some (I, L)) else (Option.bind (mX11_ruleOf P I (I 12 9)) (fun q4 => (Option.bind (mX2_pass K I L (P 12 0) 92 q4) (fun q6 => (mX11_tryHours_9 K P f q6.2.1 q6.2.2 a1 (a2 + 1)))))))
set_option maxHeartbeats 400000 in
set_option maxRecDepth 100000 in
theorem kX11_tryHours_9 {E : xE} {B : Nat} {n : Nat} {K : Nat → Nat × Nat} {P : Nat → Nat → Nat}   {q : (Nat → Nat → Int32) × (Nat → Nat → Int64)} (d : Nat) (hd : 6 ≤ d) (G : GW K P)   : ∀ (f : Nat) (I : Nat → Nat → Int32) (L : Nat → Nat → Int64) (a1 : Int32) (a2 : Int32), mX11_tryHours_9 K P f I L a1 a2 = some q → X E B d 0 0 yX11_tryHours cX11_tryHours 3 (none : Option Jvm.ClassFile.FieldType) (none, (n, K, P, q.1, q.2)) 9 [(0, .ref 1), (1, .int a1), (2, .int a2)] [] 0 0 (n, K, P, I, L) := by
  obtain ⟨d, rfl⟩ : ∃ d0, d = d0 + 1 := ⟨d - 1, by omega⟩
  intro f
  induction f with
  | zero => intro _ _ _ _ hm; exact nomatch (show (none : Option ((Nat → Nat → Int32) × (Nat → Nat → Int64))) = some q from hm)
  | succ f ih =>
    intro I L a1 a2 hm
    rw [mX11_tryHours_9] at hm
    refine X_iload_n 2 dX11_tryHours_9 rfl rfl ?_
    refine X_iload_n 1 dX11_tryHours_10 rfl rfl ?_
    refine X_icmp_ge (tgt := 50) dX11_tryHours_11 (by decide) (fun c3 => ?_) (fun c3 => ?_)
    · replace hm := ip c3 hm
      replace hm := Option.some.inj hm
      subst hm
      exact X_vret dX11_tryHours_50 rfl
    · replace hm := iq c3 hm
      refine X_aload_n 0 dX11_tryHours_14 rfl rfl rfl ?_
      refine X_getPe fl_X11_56 (g_K1 G) rfl (g_P1_9 G) dX11_tryHours_15 ?_
      refine X_aload_n 0 dX11_tryHours_18 rfl rfl rfl ?_
      refine X_getPe fl_X11_38 (g_K1 G) rfl (g_P1_6 G) dX11_tryHours_19 ?_
      refine X_getP fl_X11_116 (g_K12 G) rfl dX11_tryHours_22 ?_
      refine X_aload_n 0 dX11_tryHours_25 rfl rfl rfl ?_
      refine X_getPe fl_X11_49 (g_K1 G) rfl (g_P1_8 G) dX11_tryHours_26 ?_
      refine X_aload_n 0 dX11_tryHours_29 rfl rfl rfl ?_
      refine X_aload_n 0 dX11_tryHours_30 rfl rfl rfl ?_
      refine X_getPe fl_X11_38 (g_K1 G) rfl (g_P1_6 G) dX11_tryHours_31 ?_
      refine X_getI fl_X11_133 (g_K12 G) rfl dX11_tryHours_34 ?_
      obtain ⟨q4, e5, hm⟩ := ob hm
      refine X_cV1 (ci := 10) (kX11_ruleOf d (by omega) G e5) ml_X11_260 mi_X11_ruleOf rfl cf_10 (g_K1 G) rfl rfl (Nat.le_refl _) ⟨Nat.le_refl _, Nat.le_refl _⟩ (Nat.le_of_ble_eq_true rfl) dX11_tryHours_37 ?_
      obtain ⟨q6, e7, hm⟩ := ob hm
      refine X_cV1 (ci := 1) (kX2_pass d (by omega) G (gl9_st G (g_K12 G)) (g_K92 G) (rf_ruleOf G e5) e7) ml_X11_264 mi_X2_pass rfl cf_1 (g_K95 G) rfl rfl (Nat.le_refl _) ⟨Nat.le_refl _, Nat.le_refl _⟩ (Nat.le_of_ble_eq_true rfl) dX11_tryHours_40 ?_
      refine X_pop dX11_tryHours_43 rfl ?_
      refine X_iinc (lv' := [(2, .int (a2 + 1)), (0, .ref 1), (1, .int a1)]) 2 dX11_tryHours_44 rfl rfl (by decide) rfl ?_
      refine X_goto (tgt := 9) dX11_tryHours_47 (by decide) ?_
      exact X_lv [1, 2, 0] rfl (ih _ _ _ _ hm)
def mX11_tryHours (K : Nat → Nat × Nat) (P : Nat → Nat → Nat) (I : Nat → Nat → Int32) (L : Nat → Nat → Int64) (a1 : Int32) : Option ((Nat → Nat → Int32) × (Nat → Nat → Int64)) := (Option.bind (mX2_forgetRents I) (fun q1 => (mX11_tryHours_9 K P xf q1 L a1 (0 : Int32))))
set_option maxHeartbeats 400000 in
set_option maxRecDepth 100000 in
theorem kX11_tryHours {E : xE} {B : Nat} {n : Nat} {K : Nat → Nat × Nat} {P : Nat → Nat → Nat} {I : Nat → Nat → Int32} {L : Nat → Nat → Int64}  {a1 : Int32} {q : (Nat → Nat → Int32) × (Nat → Nat → Int64)} (d : Nat) (hd : 6 ≤ d) (G : GW K P)   (hm : mX11_tryHours K P I L a1 = some q) : MX E B d 0 0 yX11_tryHours cX11_tryHours 3 (none : Option Jvm.ClassFile.FieldType) [.ref 1, .int a1] (n, K, P, I, L) (none, (n, K, P, q.1, q.2)) := by
  refine MX_of (lv := [(0, .ref 1), (1, .int a1)]) (by decide +kernel) (Nat.le_of_ble_eq_true rfl) rfl ?_
  obtain ⟨d, rfl⟩ : ∃ d0, d = d0 + 1 := ⟨d - 1, by omega⟩
  unfold mX11_tryHours at hm
  refine X_aload_n 0 dX11_tryHours_0 rfl rfl rfl ?_
  refine X_getPe fl_X11_56 (g_K1 G) rfl (g_P1_9 G) dX11_tryHours_1 ?_
  obtain ⟨q1, e2, hm⟩ := ob hm
  refine X_cV0 (ci := 1) (kX2_forgetRents d (by omega) G e2) ml_X11_282 mi_X2_forgetRents rfl cf_1 (g_K95 G) rfl rfl (Nat.le_refl _) ⟨Nat.le_refl _, Nat.le_refl _⟩ (Nat.le_of_ble_eq_true rfl) dX11_tryHours_4 ?_
  refine X_iconst (v := (0 : Int32)) dX11_tryHours_7 (by decide) ?_
  refine X_istore_n (lv' := [(2, .int (0 : Int32)), (0, .ref 1), (1, .int a1)]) dX11_tryHours_8 rfl (by decide) rfl ?_
  refine X_lv [1, 2, 0] rfl (kX11_tryHours_9 _ hd G xf _ _ _ _  hm)
def mX11_isThereFor (P : Nat → Nat → Nat) (I : Nat → Nat → Int32) (a1 : Int32) (a2 : Int32) : Option (Int32) := (if a2 = (0 : Int32) then (Option.bind (mX11_isThing P I a1) (fun q2 => (if q2 = 0 ∨ q2 = 1 then (some q2) else none))) else (if a2 = (1 : Int32) then (Option.bind (mX11_isPainter P I a1) (fun q6 => (if q6 = 0 ∨ q6 = 1 then (some q6) else none))) else (if a2 = (2 : Int32) then (Option.bind (mX11_isCell P I a1) (fun q10 => (if q10 = 0 ∨ q10 = 1 then (some q10) else none))) else (some (0 : Int32)))))
set_option maxHeartbeats 400000 in
set_option maxRecDepth 100000 in
theorem kX11_isThereFor {E : xE} {B : Nat} {n : Nat} {K : Nat → Nat × Nat} {P : Nat → Nat → Nat} {I : Nat → Nat → Int32} {L : Nat → Nat → Int64}  {a1 : Int32} {a2 : Int32} {q : Int32} (d : Nat) (hd : 1 ≤ d) (G : GW K P)   (hm : mX11_isThereFor P I a1 a2 = some q) : MX E B d 0 0 yX11_isThereFor cX11_isThereFor 3 (some .boolean) [.ref 1, .int a1, .int a2] (n, K, P, I, L) (some (.int q), (n, K, P, I, L)) := by
  refine MX_of (lv := [(0, .ref 1), (1, .int a1), (2, .int a2)]) (by decide +kernel) (Nat.le_of_ble_eq_true rfl) rfl ?_
  obtain ⟨d, rfl⟩ : ∃ d0, d = d0 + 1 := ⟨d - 1, by omega⟩
  unfold mX11_isThereFor at hm
  refine X_iload_n 2 dX11_isThereFor_0 rfl rfl ?_
  rcases Decidable.em (a2 = (0 : Int32)) with c1 | c1
  · replace hm := ip c1 hm
    refine X_swK (off := 27) (tgt := 28) c1 dX11_isThereFor_1 (by decide) (by decide) (by decide) (by decide) ?_
    refine X_aload_n 0 dX11_isThereFor_28 rfl rfl rfl ?_
    refine X_iload_n 1 dX11_isThereFor_29 rfl rfl ?_
    obtain ⟨q2, e3, hm⟩ := ob hm
    refine X_cV1 (ci := 10) (kX11_isThing d (by omega) G e3) ml_X11_192 mi_X11_isThing rfl cf_10 (g_K1 G) rfl rfl (Nat.le_refl _) ⟨Nat.le_refl _, Nat.le_refl _⟩ (Nat.le_of_ble_eq_true rfl) dX11_isThereFor_30 ?_
    obtain ⟨g4, hm⟩ := og hm
    replace hm := Option.some.inj hm
    subst hm
    exact X_zret dX11_isThereFor_33 rfl (x_nz g4)
  · replace hm := iq c1 hm
    rcases Decidable.em (a2 = (1 : Int32)) with c5 | c5
    · replace hm := ip c5 hm
      refine X_swK (off := 33) (tgt := 34) c5 dX11_isThereFor_1 (by decide) (by decide) (by decide) (by decide) ?_
      refine X_aload_n 0 dX11_isThereFor_34 rfl rfl rfl ?_
      refine X_iload_n 1 dX11_isThereFor_35 rfl rfl ?_
      obtain ⟨q6, e7, hm⟩ := ob hm
      refine X_cV1 (ci := 10) (kX11_isPainter d (by omega) G e7) ml_X11_183 mi_X11_isPainter rfl cf_10 (g_K1 G) rfl rfl (Nat.le_refl _) ⟨Nat.le_refl _, Nat.le_refl _⟩ (Nat.le_of_ble_eq_true rfl) dX11_isThereFor_36 ?_
      obtain ⟨g8, hm⟩ := og hm
      replace hm := Option.some.inj hm
      subst hm
      exact X_zret dX11_isThereFor_39 rfl (x_nz g8)
    · replace hm := iq c5 hm
      rcases Decidable.em (a2 = (2 : Int32)) with c9 | c9
      · replace hm := ip c9 hm
        refine X_swK (off := 39) (tgt := 40) c9 dX11_isThereFor_1 (by decide) (by decide) (by decide) (by decide) ?_
        refine X_aload_n 0 dX11_isThereFor_40 rfl rfl rfl ?_
        refine X_iload_n 1 dX11_isThereFor_41 rfl rfl ?_
        obtain ⟨q10, e11, hm⟩ := ob hm
        refine X_cV1 (ci := 10) (kX11_isCell d (by omega) G e11) ml_X11_149 mi_X11_isCell rfl cf_10 (g_K1 G) rfl rfl (Nat.le_refl _) ⟨Nat.le_refl _, Nat.le_refl _⟩ (Nat.le_of_ble_eq_true rfl) dX11_isThereFor_42 ?_
        obtain ⟨g12, hm⟩ := og hm
        replace hm := Option.some.inj hm
        subst hm
        exact X_zret dX11_isThereFor_45 rfl (x_nz g12)
      · replace hm := iq c9 hm
        refine X_tableOut (tgt := 46) dX11_isThereFor_1 (sw_out 3 (by decide) (fun i hi => by
          have hi2 : i = 0 ∨ i = 1 ∨ i = 2 := by omega
          rcases hi2 with rfl | rfl | rfl
          · exact c1
          · exact c5
          · exact c9)) (by decide) ?_
        refine X_iconst (v := (0 : Int32)) dX11_isThereFor_46 (by decide) ?_
        replace hm := Option.some.inj hm
        subst hm
        exact X_zret (v := (0 : Int32)) dX11_isThereFor_47 rfl (x_nz (Or.inl rfl))
def mX11_ahead (K : Nat → Nat × Nat) (P : Nat → Nat → Nat) (I : Nat → Nat → Int32) (L : Nat → Nat → Int64) (a1 : Int32) (a2 : Int32) (a3 : Int32) : Option (Int32 × (Nat → Nat → Int32) × (Nat → Nat → Int64)) := (Option.bind (mX11_isWithin a2 (0 : Int32) (100 : Int32)) (fun q1 => (if q1 = 0 then (some ((-2 : Int32), I, L)) else (Option.bind (mX11_isThereFor P I a1 a3) (fun q4 => (if q4 = 0 then (some ((-2 : Int32), I, L)) else (Option.bind (mX6_copyFrom I L 92 24) (fun q7 => (Option.bind (mX11_tryHours K P q7.1 q7.2 a2) (fun q9 => (if a3 = 0 then (Option.bind (mX7_ownerOfThing q9.1 q9.2 (P 12 0) 92 a1) (fun q17 => (some (q17, q9.1, q9.2)))) else (if a3 = (1 : Int32) then (if inb a1 4 = true then (some ((q9.1 94 (ix a1)), q9.1, q9.2)) else none) else (if inb a1 16 = true then (Option.bind (mX7_ownerOf q9.1 (P 12 0) (q9.2 93 (ix a1)) (q9.1 92 2)) (fun q14 => (some (q14, q9.1, q9.2)))) else none)))))))))))))
set_option maxHeartbeats 400000 in
set_option maxRecDepth 100000 in
theorem kX11_ahead {E : xE} {B : Nat} {n : Nat} {K : Nat → Nat × Nat} {P : Nat → Nat → Nat} {I : Nat → Nat → Int32} {L : Nat → Nat → Int64}  {a1 : Int32} {a2 : Int32} {a3 : Int32} {q : Int32 × (Nat → Nat → Int32) × (Nat → Nat → Int64)} (d : Nat) (hd : 7 ≤ d) (G : GW K P)   (hm : mX11_ahead K P I L a1 a2 a3 = some q) : MX E B d 0 0 yX11_ahead cX11_ahead 4 (some .int) [.ref 1, .int a1, .int a2, .int a3] (n, K, P, I, L) (some (.int q.1), (n, K, P, q.2.1, q.2.2)) := by
  refine MX_of (lv := [(0, .ref 1), (1, .int a1), (2, .int a2), (3, .int a3)]) (by decide +kernel) (Nat.le_of_ble_eq_true rfl) rfl ?_
  obtain ⟨d, rfl⟩ : ∃ d0, d = d0 + 1 := ⟨d - 1, by omega⟩
  unfold mX11_ahead at hm
  refine X_iload_n 2 dX11_ahead_0 rfl rfl ?_
  refine X_iconst (v := (0 : Int32)) dX11_ahead_1 (by decide) ?_
  refine X_bipush (v := (100 : Int32)) dX11_ahead_2 (by decide) ?_
  obtain ⟨q1, e2, hm⟩ := ob hm
  refine X_cS1 (kX11_isWithin d (by omega) G e2) ml_X11_285 ms_X11_isWithin rfl rfl (Nat.le_refl _) ⟨Nat.le_refl _, Nat.le_refl _⟩ (Nat.le_of_ble_eq_true rfl) dX11_ahead_4 ?_
  refine X_if_eq (tgt := 19) dX11_ahead_7 (by decide) (fun c3 => ?_) (fun c3 => ?_)
  · replace hm := ip c3 hm
    refine X_bipush (v := (-2 : Int32)) dX11_ahead_19 (by decide) ?_
    replace hm := Option.some.inj hm
    subst hm
    exact X_iret dX11_ahead_21 rfl
  · replace hm := iq c3 hm
    refine X_aload_n 0 dX11_ahead_10 rfl rfl rfl ?_
    refine X_iload_n 1 dX11_ahead_11 rfl rfl ?_
    refine X_iload_n 3 dX11_ahead_12 rfl rfl ?_
    obtain ⟨q4, e5, hm⟩ := ob hm
    refine X_cV1 (ci := 10) (kX11_isThereFor d (by omega) G e5) ml_X11_289 mi_X11_isThereFor rfl cf_10 (g_K1 G) rfl rfl (Nat.le_refl _) ⟨Nat.le_refl _, Nat.le_refl _⟩ (Nat.le_of_ble_eq_true rfl) dX11_ahead_13 ?_
    refine X_if_ne (tgt := 22) dX11_ahead_16 (by decide) (fun c6 => ?_) (fun c6 => ?_)
    · replace hm := iq c6 hm
      refine X_aload_n 0 dX11_ahead_22 rfl rfl rfl ?_
      refine X_getPe fl_X11_49 (g_K1 G) rfl (g_P1_8 G) dX11_ahead_23 ?_
      refine X_aload_n 0 dX11_ahead_26 rfl rfl rfl ?_
      refine X_getPe fl_X11_38 (g_K1 G) rfl (g_P1_6 G) dX11_ahead_27 ?_
      refine X_getPe fl_X11_142 (g_K12 G) rfl (g_P12_1 G) dX11_ahead_30 ?_
      obtain ⟨q7, e8, hm⟩ := ob hm
      refine X_cV0 (ci := 5) (kX6_copyFrom d (by omega) G (g_K92 G) (g_K24 G) e8) ml_X11_293 mi_X6_copyFrom rfl cf_5 (g_K92 G) rfl rfl (Nat.le_refl _) ⟨Nat.le_refl _, Nat.le_refl _⟩ (Nat.le_of_ble_eq_true rfl) dX11_ahead_33 ?_
      refine X_aload_n 0 dX11_ahead_36 rfl rfl rfl ?_
      refine X_iload_n 2 dX11_ahead_37 rfl rfl ?_
      obtain ⟨q9, e10, hm⟩ := ob hm
      refine X_cV0 (ci := 10) (kX11_tryHours d (by omega) G e10) ml_X11_297 mi_X11_tryHours rfl cf_10 (g_K1 G) rfl rfl (Nat.le_refl _) ⟨Nat.le_refl _, Nat.le_refl _⟩ (Nat.le_of_ble_eq_true rfl) dX11_ahead_38 ?_
      refine X_iload_n 3 dX11_ahead_41 rfl rfl ?_
      refine X_if_ne (tgt := 61) dX11_ahead_42 (by decide) (fun c11 => ?_) (fun c11 => ?_)
      · replace hm := iq c11 hm
        refine X_iload_n 3 dX11_ahead_61 rfl rfl ?_
        refine X_iconst (v := (1 : Int32)) dX11_ahead_62 (by decide) ?_
        refine X_icmp_ne (tgt := 78) dX11_ahead_63 (by decide) (fun c12 => ?_) (fun c12 => ?_)
        · replace hm := iq c12 hm
          refine X_aload_n 0 dX11_ahead_78 rfl rfl rfl ?_
          refine X_getPe fl_X11_38 (g_K1 G) rfl (g_P1_6 G) dX11_ahead_79 ?_
          refine X_getP fl_X11_116 (g_K12 G) rfl dX11_ahead_82 ?_
          refine X_aload_n 0 dX11_ahead_85 rfl rfl rfl ?_
          refine X_getPe fl_X11_49 (g_K1 G) rfl (g_P1_8 G) dX11_ahead_86 ?_
          refine X_getPe fl_X11_152 (g_K92 G) rfl (g_P92_0 G) dX11_ahead_89 ?_
          refine X_iload_n 1 dX11_ahead_92 rfl rfl ?_
          obtain ⟨g13, hm⟩ := og hm
          refine X_laldJ (g_K93 G) g13 rfl dX11_ahead_93 ?_
          refine X_aload_n 0 dX11_ahead_94 rfl rfl rfl ?_
          refine X_getPe fl_X11_49 (g_K1 G) rfl (g_P1_8 G) dX11_ahead_95 ?_
          refine X_getI fl_X11_165 (g_K92 G) rfl dX11_ahead_98 ?_
          obtain ⟨q14, e15, hm⟩ := ob hm
          refine X_cV1 (ci := 6) (kX7_ownerOf d (by omega) G (gl9_st G (g_K12 G)) e15) ml_X11_168 mi_X7_ownerOf rfl cf_6 (gl9_st G (g_K12 G)) rfl rfl (Nat.le_refl _) ⟨Nat.le_refl _, Nat.le_refl _⟩ (Nat.le_of_ble_eq_true rfl) dX11_ahead_101 ?_
          replace hm := Option.some.inj hm
          subst hm
          exact X_iret dX11_ahead_104 rfl
        · replace hm := ip c12 hm
          refine X_aload_n 0 dX11_ahead_66 rfl rfl rfl ?_
          refine X_getPe fl_X11_49 (g_K1 G) rfl (g_P1_8 G) dX11_ahead_67 ?_
          refine X_getPe fl_X11_209 (g_K92 G) rfl (g_P92_1 G) dX11_ahead_70 ?_
          refine X_iload_n 1 dX11_ahead_73 rfl rfl ?_
          obtain ⟨g16, hm⟩ := og hm
          refine X_ialdJ (g_K94 G) g16 rfl dX11_ahead_74 ?_
          refine X_goto (tgt := 104) dX11_ahead_75 (by decide) ?_
          replace hm := Option.some.inj hm
          subst hm
          exact X_iret dX11_ahead_104 rfl
      · replace hm := ip c11 hm
        refine X_aload_n 0 dX11_ahead_45 rfl rfl rfl ?_
        refine X_getPe fl_X11_38 (g_K1 G) rfl (g_P1_6 G) dX11_ahead_46 ?_
        refine X_getP fl_X11_116 (g_K12 G) rfl dX11_ahead_49 ?_
        refine X_aload_n 0 dX11_ahead_52 rfl rfl rfl ?_
        refine X_getPe fl_X11_49 (g_K1 G) rfl (g_P1_8 G) dX11_ahead_53 ?_
        refine X_iload_n 1 dX11_ahead_56 rfl rfl ?_
        obtain ⟨q17, e18, hm⟩ := ob hm
        refine X_cV1 (ci := 6) (kX7_ownerOfThing d (by omega) G (gl9_st G (g_K12 G)) (g_K92 G) e18) ml_X11_204 mi_X7_ownerOfThing rfl cf_6 (gl9_st G (g_K12 G)) rfl rfl (Nat.le_refl _) ⟨Nat.le_refl _, Nat.le_refl _⟩ (Nat.le_of_ble_eq_true rfl) dX11_ahead_57 ?_
        replace hm := Option.some.inj hm
        subst hm
        exact X_iret dX11_ahead_60 rfl
    · replace hm := ip c6 hm
      refine X_bipush (v := (-2 : Int32)) dX11_ahead_19 (by decide) ?_
      replace hm := Option.some.inj hm
      subst hm
      exact X_iret dX11_ahead_21 rfl
def mX11_rents (K : Nat → Nat × Nat) (P : Nat → Nat → Nat) (I : Nat → Nat → Int32) (L : Nat → Nat → Int64) (a1 : Int32) (a2 : Int32) : Option (Int32 × (Nat → Nat → Int32) × (Nat → Nat → Int64)) := (Option.bind (mX11_isPainter P I a1) (fun q1 => (if q1 = 0 then (some ((-1 : Int32), I, L)) else (Option.bind (mX11_isWithin a2 (1 : Int32) (100 : Int32)) (fun q4 => (if q4 = 0 then (some ((-1 : Int32), I, L)) else (Option.bind (mX6_copyFrom I L 92 24) (fun q7 => (Option.bind (mX11_tryHours K P q7.1 q7.2 a2) (fun q9 => (if inb a1 4 = true then (some ((q9.1 101 (ix a1)), q9.1, q9.2)) else none)))))))))))
set_option maxHeartbeats 400000 in
set_option maxRecDepth 100000 in
theorem kX11_rents {E : xE} {B : Nat} {n : Nat} {K : Nat → Nat × Nat} {P : Nat → Nat → Nat} {I : Nat → Nat → Int32} {L : Nat → Nat → Int64}  {a1 : Int32} {a2 : Int32} {q : Int32 × (Nat → Nat → Int32) × (Nat → Nat → Int64)} (d : Nat) (hd : 7 ≤ d) (G : GW K P)   (hm : mX11_rents K P I L a1 a2 = some q) : MX E B d 0 0 yX11_rents cX11_rents 3 (some .int) [.ref 1, .int a1, .int a2] (n, K, P, I, L) (some (.int q.1), (n, K, P, q.2.1, q.2.2)) := by
  refine MX_of (lv := [(0, .ref 1), (1, .int a1), (2, .int a2)]) (by decide +kernel) (Nat.le_of_ble_eq_true rfl) rfl ?_
  obtain ⟨d, rfl⟩ : ∃ d0, d = d0 + 1 := ⟨d - 1, by omega⟩
  unfold mX11_rents at hm
  refine X_aload_n 0 dX11_rents_0 rfl rfl rfl ?_
  refine X_iload_n 1 dX11_rents_1 rfl rfl ?_
  obtain ⟨q1, e2, hm⟩ := ob hm
  refine X_cV1 (ci := 10) (kX11_isPainter d (by omega) G e2) ml_X11_183 mi_X11_isPainter rfl cf_10 (g_K1 G) rfl rfl (Nat.le_refl _) ⟨Nat.le_refl _, Nat.le_refl _⟩ (Nat.le_of_ble_eq_true rfl) dX11_rents_2 ?_
  refine X_if_eq (tgt := 18) dX11_rents_5 (by decide) (fun c3 => ?_) (fun c3 => ?_)
  · replace hm := ip c3 hm
    refine X_iconst (v := (-1 : Int32)) dX11_rents_18 (by decide) ?_
    replace hm := Option.some.inj hm
    subst hm
    exact X_iret dX11_rents_19 rfl
  · replace hm := iq c3 hm
    refine X_iload_n 2 dX11_rents_8 rfl rfl ?_
    refine X_iconst (v := (1 : Int32)) dX11_rents_9 (by decide) ?_
    refine X_bipush (v := (100 : Int32)) dX11_rents_10 (by decide) ?_
    obtain ⟨q4, e5, hm⟩ := ob hm
    refine X_cS1 (kX11_isWithin d (by omega) G e5) ml_X11_285 ms_X11_isWithin rfl rfl (Nat.le_refl _) ⟨Nat.le_refl _, Nat.le_refl _⟩ (Nat.le_of_ble_eq_true rfl) dX11_rents_12 ?_
    refine X_if_ne (tgt := 20) dX11_rents_15 (by decide) (fun c6 => ?_) (fun c6 => ?_)
    · replace hm := iq c6 hm
      refine X_aload_n 0 dX11_rents_20 rfl rfl rfl ?_
      refine X_getPe fl_X11_49 (g_K1 G) rfl (g_P1_8 G) dX11_rents_21 ?_
      refine X_aload_n 0 dX11_rents_24 rfl rfl rfl ?_
      refine X_getPe fl_X11_38 (g_K1 G) rfl (g_P1_6 G) dX11_rents_25 ?_
      refine X_getPe fl_X11_142 (g_K12 G) rfl (g_P12_1 G) dX11_rents_28 ?_
      obtain ⟨q7, e8, hm⟩ := ob hm
      refine X_cV0 (ci := 5) (kX6_copyFrom d (by omega) G (g_K92 G) (g_K24 G) e8) ml_X11_293 mi_X6_copyFrom rfl cf_5 (g_K92 G) rfl rfl (Nat.le_refl _) ⟨Nat.le_refl _, Nat.le_refl _⟩ (Nat.le_of_ble_eq_true rfl) dX11_rents_31 ?_
      refine X_aload_n 0 dX11_rents_34 rfl rfl rfl ?_
      refine X_iload_n 2 dX11_rents_35 rfl rfl ?_
      obtain ⟨q9, e10, hm⟩ := ob hm
      refine X_cV0 (ci := 10) (kX11_tryHours d (by omega) G e10) ml_X11_297 mi_X11_tryHours rfl cf_10 (g_K1 G) rfl rfl (Nat.le_refl _) ⟨Nat.le_refl _, Nat.le_refl _⟩ (Nat.le_of_ble_eq_true rfl) dX11_rents_36 ?_
      refine X_aload_n 0 dX11_rents_39 rfl rfl rfl ?_
      refine X_getPe fl_X11_56 (g_K1 G) rfl (g_P1_9 G) dX11_rents_40 ?_
      refine X_getPe fl_X11_300 (g_K95 G) rfl (g_P95_5 G) dX11_rents_43 ?_
      refine X_iload_n 1 dX11_rents_46 rfl rfl ?_
      obtain ⟨g11, hm⟩ := og hm
      refine X_ialdJ (g_K101 G) g11 rfl dX11_rents_47 ?_
      replace hm := Option.some.inj hm
      subst hm
      exact X_iret dX11_rents_48 rfl
    · replace hm := ip c6 hm
      refine X_iconst (v := (-1 : Int32)) dX11_rents_18 (by decide) ?_
      replace hm := Option.some.inj hm
      subst hm
      exact X_iret dX11_rents_19 rfl
def mX11_worth (K : Nat → Nat × Nat) (P : Nat → Nat → Nat) (I : Nat → Nat → Int32) (L : Nat → Nat → Int64) (a1 : Int32) (a2 : Int32) (a3 : Int32) : Option (Int32 × (Nat → Nat → Int32) × (Nat → Nat → Int64)) := (Option.bind (mX11_isCell P I a1) (fun q1 => (if q1 = 0 then (some ((-100000 : Int32), I, L)) else (if inb a1 16 = true then (Option.bind (mX11_isBare I (I ((P 12 0) + 4) (ix a1))) (fun q5 => (if q5 = 0 then (Option.bind (mX11_isPainter P I a2) (fun q8 => (if q8 = 0 then (some ((-100000 : Int32), I, L)) else (Option.bind (mX11_isWithin a3 (1 : Int32) (100 : Int32)) (fun q11 => (if q11 = 0 then (some ((-100000 : Int32), I, L)) else (Option.bind (mX6_copyFrom I L 92 24) (fun q14 => (Option.bind (mX11_tryHours K P q14.1 q14.2 a3) (fun q16 => (if inb a2 4 = true then (Option.bind (mX6_copyFrom q16.1 q16.2 92 24) (fun q19 => (if inb a1 16 = true then (Option.bind (mX0_with (q19.2 93 (ix a1)) a2 (q19.1 92 2)) (fun q22 => (if inb a1 16 = true then (Option.bind (mX11_tryHours K P q19.1 (xu q19.2 93 (ix a1) q22) a3) (fun q25 => (if inb a2 4 = true then (some (((q25.1 101 (ix a2)) - (q16.1 101 (ix a2))), q25.1, q25.2)) else none))) else none))) else none))) else none))))))))))) else (some ((-100000 : Int32), I, L))))) else none))))
set_option maxHeartbeats 400000 in
set_option maxRecDepth 100000 in
theorem kX11_worth {E : xE} {B : Nat} {n : Nat} {K : Nat → Nat × Nat} {P : Nat → Nat → Nat} {I : Nat → Nat → Int32} {L : Nat → Nat → Int64}  {a1 : Int32} {a2 : Int32} {a3 : Int32} {q : Int32 × (Nat → Nat → Int32) × (Nat → Nat → Int64)} (d : Nat) (hd : 7 ≤ d) (G : GW K P)   (hm : mX11_worth K P I L a1 a2 a3 = some q) : MX E B d 0 0 yX11_worth cX11_worth 5 (some .int) [.ref 1, .int a1, .int a2, .int a3] (n, K, P, I, L) (some (.int q.1), (n, K, P, q.2.1, q.2.2)) := by
  refine MX_of (lv := [(0, .ref 1), (1, .int a1), (2, .int a2), (3, .int a3)]) (by decide +kernel) (Nat.le_of_ble_eq_true rfl) rfl ?_
  obtain ⟨d, rfl⟩ : ∃ d0, d = d0 + 1 := ⟨d - 1, by omega⟩
  unfold mX11_worth at hm
  refine X_aload_n 0 dX11_worth_0 rfl rfl rfl ?_
  refine X_iload_n 1 dX11_worth_1 rfl rfl ?_
  obtain ⟨q1, e2, hm⟩ := ob hm
  refine X_cV1 (ci := 10) (kX11_isCell d (by omega) G e2) ml_X11_149 mi_X11_isCell rfl cf_10 (g_K1 G) rfl rfl (Nat.le_refl _) ⟨Nat.le_refl _, Nat.le_refl _⟩ (Nat.le_of_ble_eq_true rfl) dX11_worth_2 ?_
  refine X_if_eq (tgt := 27) dX11_worth_5 (by decide) (fun c3 => ?_) (fun c3 => ?_)
  · replace hm := ip c3 hm
    refine X_ldc_w lc_X11_303 dX11_worth_27 ?_
    replace hm := Option.some.inj hm
    subst hm
    exact X_iret dX11_worth_30 rfl
  · replace hm := iq c3 hm
    refine X_aload_n 0 dX11_worth_8 rfl rfl rfl ?_
    refine X_aload_n 0 dX11_worth_9 rfl rfl rfl ?_
    refine X_getPe fl_X11_38 (g_K1 G) rfl (g_P1_6 G) dX11_worth_10 ?_
    refine X_getP fl_X11_116 (g_K12 G) rfl dX11_worth_13 ?_
    refine X_getPe fl_X11_156 (gl9_st G (g_K12 G)) rfl (gl6_P12 G (gl9_st G (g_K12 G))) dX11_worth_16 ?_
    refine X_iload_n 1 dX11_worth_19 rfl rfl ?_
    obtain ⟨g4, hm⟩ := og hm
    refine X_ialdJ (gl6_K4 G (gl9_st G (g_K12 G))) g4 rfl dX11_worth_20 ?_
    obtain ⟨q5, e6, hm⟩ := ob hm
    refine X_cV1 (ci := 10) (kX11_isBare d (by omega) G e6) ml_X11_208 mi_X11_isBare rfl cf_10 (g_K1 G) rfl rfl (Nat.le_refl _) ⟨Nat.le_refl _, Nat.le_refl _⟩ (Nat.le_of_ble_eq_true rfl) dX11_worth_21 ?_
    refine X_if_eq (tgt := 31) dX11_worth_24 (by decide) (fun c7 => ?_) (fun c7 => ?_)
    · replace hm := ip c7 hm
      refine X_aload_n 0 dX11_worth_31 rfl rfl rfl ?_
      refine X_iload_n 2 dX11_worth_32 rfl rfl ?_
      obtain ⟨q8, e9, hm⟩ := ob hm
      refine X_cV1 (ci := 10) (kX11_isPainter d (by omega) G e9) ml_X11_183 mi_X11_isPainter rfl cf_10 (g_K1 G) rfl rfl (Nat.le_refl _) ⟨Nat.le_refl _, Nat.le_refl _⟩ (Nat.le_of_ble_eq_true rfl) dX11_worth_33 ?_
      refine X_if_eq (tgt := 49) dX11_worth_36 (by decide) (fun c10 => ?_) (fun c10 => ?_)
      · replace hm := ip c10 hm
        refine X_ldc_w lc_X11_303 dX11_worth_49 ?_
        replace hm := Option.some.inj hm
        subst hm
        exact X_iret dX11_worth_52 rfl
      · replace hm := iq c10 hm
        refine X_iload_n 3 dX11_worth_39 rfl rfl ?_
        refine X_iconst (v := (1 : Int32)) dX11_worth_40 (by decide) ?_
        refine X_bipush (v := (100 : Int32)) dX11_worth_41 (by decide) ?_
        obtain ⟨q11, e12, hm⟩ := ob hm
        refine X_cS1 (kX11_isWithin d (by omega) G e12) ml_X11_285 ms_X11_isWithin rfl rfl (Nat.le_refl _) ⟨Nat.le_refl _, Nat.le_refl _⟩ (Nat.le_of_ble_eq_true rfl) dX11_worth_43 ?_
        refine X_if_ne (tgt := 53) dX11_worth_46 (by decide) (fun c13 => ?_) (fun c13 => ?_)
        · replace hm := iq c13 hm
          refine X_aload_n 0 dX11_worth_53 rfl rfl rfl ?_
          refine X_getPe fl_X11_49 (g_K1 G) rfl (g_P1_8 G) dX11_worth_54 ?_
          refine X_aload_n 0 dX11_worth_57 rfl rfl rfl ?_
          refine X_getPe fl_X11_38 (g_K1 G) rfl (g_P1_6 G) dX11_worth_58 ?_
          refine X_getPe fl_X11_142 (g_K12 G) rfl (g_P12_1 G) dX11_worth_61 ?_
          obtain ⟨q14, e15, hm⟩ := ob hm
          refine X_cV0 (ci := 5) (kX6_copyFrom d (by omega) G (g_K92 G) (g_K24 G) e15) ml_X11_293 mi_X6_copyFrom rfl cf_5 (g_K92 G) rfl rfl (Nat.le_refl _) ⟨Nat.le_refl _, Nat.le_refl _⟩ (Nat.le_of_ble_eq_true rfl) dX11_worth_64 ?_
          refine X_aload_n 0 dX11_worth_67 rfl rfl rfl ?_
          refine X_iload_n 3 dX11_worth_68 rfl rfl ?_
          obtain ⟨q16, e17, hm⟩ := ob hm
          refine X_cV0 (ci := 10) (kX11_tryHours d (by omega) G e17) ml_X11_297 mi_X11_tryHours rfl cf_10 (g_K1 G) rfl rfl (Nat.le_refl _) ⟨Nat.le_refl _, Nat.le_refl _⟩ (Nat.le_of_ble_eq_true rfl) dX11_worth_69 ?_
          refine X_aload_n 0 dX11_worth_72 rfl rfl rfl ?_
          refine X_getPe fl_X11_56 (g_K1 G) rfl (g_P1_9 G) dX11_worth_73 ?_
          refine X_getPe fl_X11_300 (g_K95 G) rfl (g_P95_5 G) dX11_worth_76 ?_
          refine X_iload_n 2 dX11_worth_79 rfl rfl ?_
          obtain ⟨g18, hm⟩ := og hm
          refine X_ialdJ (g_K101 G) g18 rfl dX11_worth_80 ?_
          refine X_istore (lv' := [(4, .int (q16.1 101 (ix a2))), (0, .ref 1), (1, .int a1), (2, .int a2), (3, .int a3)]) dX11_worth_81 (by decide) rfl ?_
          refine X_aload_n 1 dX11_worth_83 rfl rfl rfl ?_
          refine X_getPe fl_X11_49 (g_K1 G) rfl (g_P1_8 G) dX11_worth_84 ?_
          refine X_aload_n 1 dX11_worth_87 rfl rfl rfl ?_
          refine X_getPe fl_X11_38 (g_K1 G) rfl (g_P1_6 G) dX11_worth_88 ?_
          refine X_getPe fl_X11_142 (g_K12 G) rfl (g_P12_1 G) dX11_worth_91 ?_
          obtain ⟨q19, e20, hm⟩ := ob hm
          refine X_cV0 (ci := 5) (kX6_copyFrom d (by omega) G (g_K92 G) (g_K24 G) e20) ml_X11_293 mi_X6_copyFrom rfl cf_5 (g_K92 G) rfl rfl (Nat.le_refl _) ⟨Nat.le_refl _, Nat.le_refl _⟩ (Nat.le_of_ble_eq_true rfl) dX11_worth_94 ?_
          refine X_aload_n 1 dX11_worth_97 rfl rfl rfl ?_
          refine X_getPe fl_X11_49 (g_K1 G) rfl (g_P1_8 G) dX11_worth_98 ?_
          refine X_getPe fl_X11_152 (g_K92 G) rfl (g_P92_0 G) dX11_worth_101 ?_
          refine X_iload_n 2 dX11_worth_104 rfl rfl ?_
          refine X_aload_n 1 dX11_worth_105 rfl rfl rfl ?_
          refine X_getPe fl_X11_49 (g_K1 G) rfl (g_P1_8 G) dX11_worth_106 ?_
          refine X_getPe fl_X11_152 (g_K92 G) rfl (g_P92_0 G) dX11_worth_109 ?_
          refine X_iload_n 2 dX11_worth_112 rfl rfl ?_
          obtain ⟨g21, hm⟩ := og hm
          refine X_laldJ (g_K93 G) g21 rfl dX11_worth_113 ?_
          refine X_iload_n 3 dX11_worth_114 rfl rfl ?_
          refine X_aload_n 1 dX11_worth_115 rfl rfl rfl ?_
          refine X_getPe fl_X11_49 (g_K1 G) rfl (g_P1_8 G) dX11_worth_116 ?_
          refine X_getI fl_X11_165 (g_K92 G) rfl dX11_worth_119 ?_
          obtain ⟨q22, e23, hm⟩ := ob hm
          refine X_cS1 (kX0_with d (by omega) G e23) ml_X11_304 ms_X0_with rfl rfl (Nat.le_refl _) ⟨Nat.le_refl _, Nat.le_refl _⟩ (Nat.le_of_ble_eq_true rfl) dX11_worth_122 ?_
          obtain ⟨g24, hm⟩ := og hm
          refine X_lastJ (g_K93 G) g24 rfl dX11_worth_125 ?_
          refine X_aload_n 1 dX11_worth_126 rfl rfl rfl ?_
          refine X_iload_n 4 dX11_worth_127 rfl rfl ?_
          obtain ⟨q25, e26, hm⟩ := ob hm
          refine X_cV0 (ci := 10) (kX11_tryHours d (by omega) G e26) ml_X11_297 mi_X11_tryHours rfl cf_10 (g_K1 G) rfl rfl (Nat.le_refl _) ⟨Nat.le_refl _, Nat.le_refl _⟩ (Nat.le_of_ble_eq_true rfl) dX11_worth_128 ?_
          refine X_aload_n 1 dX11_worth_131 rfl rfl rfl ?_
          refine X_getPe fl_X11_56 (g_K1 G) rfl (g_P1_9 G) dX11_worth_132 ?_
          refine X_getPe fl_X11_300 (g_K95 G) rfl (g_P95_5 G) dX11_worth_135 ?_
          refine X_iload_n 3 dX11_worth_138 rfl rfl ?_
          obtain ⟨g27, hm⟩ := og hm
          refine X_ialdJ (g_K101 G) g27 rfl dX11_worth_139 ?_
          refine X_iload 0 dX11_worth_140 rfl ?_
          refine X_isub dX11_worth_142 ?_
          replace hm := Option.some.inj hm
          subst hm
          exact X_iret dX11_worth_143 rfl
        · replace hm := ip c13 hm
          refine X_ldc_w lc_X11_303 dX11_worth_49 ?_
          replace hm := Option.some.inj hm
          subst hm
          exact X_iret dX11_worth_52 rfl
    · replace hm := iq c7 hm
      refine X_ldc_w lc_X11_303 dX11_worth_27 ?_
      replace hm := Option.some.inj hm
      subst hm
      exact X_iret dX11_worth_30 rfl
def mX11_one_31 (K : Nat → Nat × Nat) (P : Nat → Nat → Nat)  : Nat → (Nat → Nat → Int32) → (Nat → Nat → Int64) → Int32 → Option (Int32 × (Nat → Nat → Int32) × (Nat → Nat → Int64))
  | 0, _, _, _ => none
  | f + 1, I, L, a1 => (if (100 : Int32) ≤ a1 then (some ((-2 : Int32), I, L)) else (Option.bind (mX7_isOfOneColour I L (P 12 0) 92) (fun q5 => (if q5 = 0 then (Option.bind (mX11_ruleOf P I (I 12 9)) (fun q8 => (Option.bind (mX2_pass K I L (P 12 0) 92 q8) (fun q10 => (mX11_one_31 K P f q10.2.1 q10.2.2 (a1 + 1)))))) else (some (((I 24 2) + a1), I, L))))))
set_option maxHeartbeats 400000 in
set_option maxRecDepth 100000 in
theorem kX11_one_31 {E : xE} {B : Nat} {n : Nat} {K : Nat → Nat × Nat} {P : Nat → Nat → Nat}   {q : Int32 × (Nat → Nat → Int32) × (Nat → Nat → Int64)} (d : Nat) (hd : 6 ≤ d) (G : GW K P)   : ∀ (f : Nat) (I : Nat → Nat → Int32) (L : Nat → Nat → Int64) (a1 : Int32), mX11_one_31 K P f I L a1 = some q → X E B d 0 0 yX11_one cX11_one 2 (some .int) (some (.int q.1), (n, K, P, q.2.1, q.2.2)) 31 [(0, .ref 1), (1, .int a1)] [] 0 0 (n, K, P, I, L) := by
  obtain ⟨d, rfl⟩ : ∃ d0, d = d0 + 1 := ⟨d - 1, by omega⟩
  intro f
  induction f with
  | zero => intro _ _ _ hm; exact nomatch (show (none : Option (Int32 × (Nat → Nat → Int32) × (Nat → Nat → Int64))) = some q from hm)
  | succ f ih =>
    intro I L a1 hm
    rw [mX11_one_31] at hm
    refine X_iload_n 1 dX11_one_31 rfl rfl ?_
    refine X_bipush (v := (100 : Int32)) dX11_one_32 (by decide) ?_
    refine X_icmp_ge (tgt := 103) dX11_one_34 (by decide) (fun c4 => ?_) (fun c4 => ?_)
    · replace hm := ip c4 hm
      refine X_bipush (v := (-2 : Int32)) dX11_one_103 (by decide) ?_
      replace hm := Option.some.inj hm
      subst hm
      exact X_iret dX11_one_105 rfl
    · replace hm := iq c4 hm
      refine X_aload_n 0 dX11_one_37 rfl rfl rfl ?_
      refine X_getPe fl_X11_38 (g_K1 G) rfl (g_P1_6 G) dX11_one_38 ?_
      refine X_getP fl_X11_116 (g_K12 G) rfl dX11_one_41 ?_
      refine X_aload_n 0 dX11_one_44 rfl rfl rfl ?_
      refine X_getPe fl_X11_49 (g_K1 G) rfl (g_P1_8 G) dX11_one_45 ?_
      obtain ⟨q5, e6, hm⟩ := ob hm
      refine X_cV1 (ci := 6) (kX7_isOfOneColour d (by omega) G (gl9_st G (g_K12 G)) (g_K92 G) e6) ml_X11_308 mi_X7_isOfOneColour rfl cf_6 (gl9_st G (g_K12 G)) rfl rfl (Nat.le_refl _) ⟨Nat.le_refl _, Nat.le_refl _⟩ (Nat.le_of_ble_eq_true rfl) dX11_one_48 ?_
      refine X_if_eq (tgt := 67) dX11_one_51 (by decide) (fun c7 => ?_) (fun c7 => ?_)
      · replace hm := ip c7 hm
        refine X_aload_n 0 dX11_one_67 rfl rfl rfl ?_
        refine X_getPe fl_X11_56 (g_K1 G) rfl (g_P1_9 G) dX11_one_68 ?_
        refine X_aload_n 0 dX11_one_71 rfl rfl rfl ?_
        refine X_getPe fl_X11_38 (g_K1 G) rfl (g_P1_6 G) dX11_one_72 ?_
        refine X_getP fl_X11_116 (g_K12 G) rfl dX11_one_75 ?_
        refine X_aload_n 0 dX11_one_78 rfl rfl rfl ?_
        refine X_getPe fl_X11_49 (g_K1 G) rfl (g_P1_8 G) dX11_one_79 ?_
        refine X_aload_n 0 dX11_one_82 rfl rfl rfl ?_
        refine X_aload_n 0 dX11_one_83 rfl rfl rfl ?_
        refine X_getPe fl_X11_38 (g_K1 G) rfl (g_P1_6 G) dX11_one_84 ?_
        refine X_getI fl_X11_133 (g_K12 G) rfl dX11_one_87 ?_
        obtain ⟨q8, e9, hm⟩ := ob hm
        refine X_cV1 (ci := 10) (kX11_ruleOf d (by omega) G e9) ml_X11_260 mi_X11_ruleOf rfl cf_10 (g_K1 G) rfl rfl (Nat.le_refl _) ⟨Nat.le_refl _, Nat.le_refl _⟩ (Nat.le_of_ble_eq_true rfl) dX11_one_90 ?_
        obtain ⟨q10, e11, hm⟩ := ob hm
        refine X_cV1 (ci := 1) (kX2_pass d (by omega) G (gl9_st G (g_K12 G)) (g_K92 G) (rf_ruleOf G e9) e11) ml_X11_264 mi_X2_pass rfl cf_1 (g_K95 G) rfl rfl (Nat.le_refl _) ⟨Nat.le_refl _, Nat.le_refl _⟩ (Nat.le_of_ble_eq_true rfl) dX11_one_93 ?_
        refine X_pop dX11_one_96 rfl ?_
        refine X_iinc (lv' := [(1, .int (a1 + 1)), (0, .ref 1)]) 1 dX11_one_97 rfl rfl (by decide) rfl ?_
        refine X_goto (tgt := 31) dX11_one_100 (by decide) ?_
        exact X_lv [1, 0] rfl (ih _ _ _ hm)
      · replace hm := iq c7 hm
        refine X_aload_n 0 dX11_one_54 rfl rfl rfl ?_
        refine X_getPe fl_X11_38 (g_K1 G) rfl (g_P1_6 G) dX11_one_55 ?_
        refine X_getPe fl_X11_142 (g_K12 G) rfl (g_P12_1 G) dX11_one_58 ?_
        refine X_getI fl_X11_165 (g_K24 G) rfl dX11_one_61 ?_
        refine X_iload_n 1 dX11_one_64 rfl rfl ?_
        refine X_iadd dX11_one_65 ?_
        replace hm := Option.some.inj hm
        subst hm
        exact X_iret dX11_one_66 rfl
def mX11_one (K : Nat → Nat × Nat) (P : Nat → Nat → Nat) (I : Nat → Nat → Int32) (L : Nat → Nat → Int64) : Option (Int32 × (Nat → Nat → Int32) × (Nat → Nat → Int64)) := (if (I (P 12 0) 0) = 0 then (some ((-1 : Int32), I, L)) else (Option.bind (mX6_copyFrom I L 92 24) (fun q2 => (mX11_one_31 K P xf q2.1 q2.2 (0 : Int32)))))
set_option maxHeartbeats 400000 in
set_option maxRecDepth 100000 in
theorem kX11_one {E : xE} {B : Nat} {n : Nat} {K : Nat → Nat × Nat} {P : Nat → Nat → Nat} {I : Nat → Nat → Int32} {L : Nat → Nat → Int64}   {q : Int32 × (Nat → Nat → Int32) × (Nat → Nat → Int64)} (d : Nat) (hd : 6 ≤ d) (G : GW K P)   (hm : mX11_one K P I L = some q) : MX E B d 0 0 yX11_one cX11_one 2 (some .int) [.ref 1] (n, K, P, I, L) (some (.int q.1), (n, K, P, q.2.1, q.2.2)) := by
  refine MX_of (lv := [(0, .ref 1)]) (by decide +kernel) (Nat.le_of_ble_eq_true rfl) rfl ?_
  obtain ⟨d, rfl⟩ : ∃ d0, d = d0 + 1 := ⟨d - 1, by omega⟩
  unfold mX11_one at hm
  refine X_aload_n 0 dX11_one_0 rfl rfl rfl ?_
  refine X_getPe fl_X11_38 (g_K1 G) rfl (g_P1_6 G) dX11_one_1 ?_
  refine X_getP fl_X11_116 (g_K12 G) rfl dX11_one_4 ?_
  refine X_getI fl_X11_219 (gl9_st G (g_K12 G)) rfl dX11_one_7 ?_
  refine X_if_ne (tgt := 15) dX11_one_10 (by decide) (fun c1 => ?_) (fun c1 => ?_)
  · replace hm := iq c1 hm
    refine X_aload_n 0 dX11_one_15 rfl rfl rfl ?_
    refine X_getPe fl_X11_49 (g_K1 G) rfl (g_P1_8 G) dX11_one_16 ?_
    refine X_aload_n 0 dX11_one_19 rfl rfl rfl ?_
    refine X_getPe fl_X11_38 (g_K1 G) rfl (g_P1_6 G) dX11_one_20 ?_
    refine X_getPe fl_X11_142 (g_K12 G) rfl (g_P12_1 G) dX11_one_23 ?_
    obtain ⟨q2, e3, hm⟩ := ob hm
    refine X_cV0 (ci := 5) (kX6_copyFrom d (by omega) G (g_K92 G) (g_K24 G) e3) ml_X11_293 mi_X6_copyFrom rfl cf_5 (g_K92 G) rfl rfl (Nat.le_refl _) ⟨Nat.le_refl _, Nat.le_refl _⟩ (Nat.le_of_ble_eq_true rfl) dX11_one_26 ?_
    refine X_iconst (v := (0 : Int32)) dX11_one_29 (by decide) ?_
    refine X_istore_n (lv' := [(1, .int (0 : Int32)), (0, .ref 1)]) dX11_one_30 rfl (by decide) rfl ?_
    refine X_lv [1, 0] rfl (kX11_one_31 _ hd G xf _ _ _  hm)
  · replace hm := ip c1 hm
    refine X_iconst (v := (-1 : Int32)) dX11_one_13 (by decide) ?_
    replace hm := Option.some.inj hm
    subst hm
    exact X_iret dX11_one_14 rfl
def mX11_when_17 (P : Nat → Nat → Nat) (I : Nat → Nat → Int32)  : Nat → Int32 → Option (Int32)
  | 0, _ => none
  | f + 1, a1 => (if (60 : Int32) ≤ a1 then (some (-2 : Int32)) else (Option.bind (mX7_driesFrom I (P 12 0) ((I 24 2) + a1)) (fun q3 => (if q3 = 0 then (mX11_when_17 P I f (a1 + 1)) else (some ((I 24 2) + a1))))))
set_option maxHeartbeats 400000 in
set_option maxRecDepth 100000 in
theorem kX11_when_17 {E : xE} {B : Nat} {n : Nat} {K : Nat → Nat × Nat} {P : Nat → Nat → Nat} {I : Nat → Nat → Int32} {L : Nat → Nat → Int64}   {q : Int32} (d : Nat) (hd : 2 ≤ d) (G : GW K P)   : ∀ (f : Nat) (a1 : Int32), mX11_when_17 P I f a1 = some q → X E B d 0 0 yX11_when cX11_when 2 (some .int) (some (.int q), (n, K, P, I, L)) 17 [(0, .ref 1), (1, .int a1)] [] 0 0 (n, K, P, I, L) := by
  obtain ⟨d, rfl⟩ : ∃ d0, d = d0 + 1 := ⟨d - 1, by omega⟩
  intro f
  induction f with
  | zero => intro _ hm; exact nomatch (show (none : Option (Int32)) = some q from hm)
  | succ f ih =>
    intro a1 hm
    rw [mX11_when_17] at hm
    refine X_iload_n 1 dX11_when_17 rfl rfl ?_
    refine X_bipush (v := (60 : Int32)) dX11_when_18 (by decide) ?_
    refine X_icmp_ge (tgt := 67) dX11_when_20 (by decide) (fun c2 => ?_) (fun c2 => ?_)
    · replace hm := ip c2 hm
      refine X_bipush (v := (-2 : Int32)) dX11_when_67 (by decide) ?_
      replace hm := Option.some.inj hm
      subst hm
      exact X_iret dX11_when_69 rfl
    · replace hm := iq c2 hm
      refine X_aload_n 0 dX11_when_23 rfl rfl rfl ?_
      refine X_getPe fl_X11_38 (g_K1 G) rfl (g_P1_6 G) dX11_when_24 ?_
      refine X_getP fl_X11_116 (g_K12 G) rfl dX11_when_27 ?_
      refine X_aload_n 0 dX11_when_30 rfl rfl rfl ?_
      refine X_getPe fl_X11_38 (g_K1 G) rfl (g_P1_6 G) dX11_when_31 ?_
      refine X_getPe fl_X11_142 (g_K12 G) rfl (g_P12_1 G) dX11_when_34 ?_
      refine X_getI fl_X11_165 (g_K24 G) rfl dX11_when_37 ?_
      refine X_iload_n 1 dX11_when_40 rfl rfl ?_
      refine X_iadd dX11_when_41 ?_
      obtain ⟨q3, e4, hm⟩ := ob hm
      refine X_cV1 (ci := 6) (kX7_driesFrom d (by omega) G (gl9_st G (g_K12 G)) e4) ml_X11_312 mi_X7_driesFrom rfl cf_6 (gl9_st G (g_K12 G)) rfl rfl (Nat.le_refl _) ⟨Nat.le_refl _, Nat.le_refl _⟩ (Nat.le_of_ble_eq_true rfl) dX11_when_42 ?_
      refine X_if_eq (tgt := 61) dX11_when_45 (by decide) (fun c5 => ?_) (fun c5 => ?_)
      · replace hm := ip c5 hm
        refine X_iinc (lv' := [(1, .int (a1 + 1)), (0, .ref 1)]) 1 dX11_when_61 rfl rfl (by decide) rfl ?_
        refine X_goto (tgt := 17) dX11_when_64 (by decide) ?_
        exact X_lv [1, 0] rfl (ih _ hm)
      · replace hm := iq c5 hm
        refine X_aload_n 0 dX11_when_48 rfl rfl rfl ?_
        refine X_getPe fl_X11_38 (g_K1 G) rfl (g_P1_6 G) dX11_when_49 ?_
        refine X_getPe fl_X11_142 (g_K12 G) rfl (g_P12_1 G) dX11_when_52 ?_
        refine X_getI fl_X11_165 (g_K24 G) rfl dX11_when_55 ?_
        refine X_iload_n 1 dX11_when_58 rfl rfl ?_
        refine X_iadd dX11_when_59 ?_
        replace hm := Option.some.inj hm
        subst hm
        exact X_iret dX11_when_60 rfl
def mX11_when (P : Nat → Nat → Nat) (I : Nat → Nat → Int32)  : Option (Int32) := (if (I (P 12 0) 0) = 0 then (some (-1 : Int32)) else (mX11_when_17 P I xf (0 : Int32)))
set_option maxHeartbeats 400000 in
set_option maxRecDepth 100000 in
theorem kX11_when {E : xE} {B : Nat} {n : Nat} {K : Nat → Nat × Nat} {P : Nat → Nat → Nat} {I : Nat → Nat → Int32} {L : Nat → Nat → Int64}   {q : Int32} (d : Nat) (hd : 2 ≤ d) (G : GW K P)   (hm : mX11_when P I = some q) : MX E B d 0 0 yX11_when cX11_when 2 (some .int) [.ref 1] (n, K, P, I, L) (some (.int q), (n, K, P, I, L)) := by
  refine MX_of (lv := [(0, .ref 1)]) (by decide +kernel) (Nat.le_of_ble_eq_true rfl) rfl ?_
  obtain ⟨d, rfl⟩ : ∃ d0, d = d0 + 1 := ⟨d - 1, by omega⟩
  unfold mX11_when at hm
  refine X_aload_n 0 dX11_when_0 rfl rfl rfl ?_
  refine X_getPe fl_X11_38 (g_K1 G) rfl (g_P1_6 G) dX11_when_1 ?_
  refine X_getP fl_X11_116 (g_K12 G) rfl dX11_when_4 ?_
  refine X_getI fl_X11_219 (gl9_st G (g_K12 G)) rfl dX11_when_7 ?_
  refine X_if_ne (tgt := 15) dX11_when_10 (by decide) (fun c1 => ?_) (fun c1 => ?_)
  · replace hm := iq c1 hm
    refine X_iconst (v := (0 : Int32)) dX11_when_15 (by decide) ?_
    refine X_istore_n (lv' := [(1, .int (0 : Int32)), (0, .ref 1)]) dX11_when_16 rfl (by decide) rfl ?_
    refine X_lv [1, 0] rfl (kX11_when_17 _ hd G xf _  hm)
  · replace hm := ip c1 hm
    refine X_iconst (v := (-1 : Int32)) dX11_when_13 (by decide) ?_
    replace hm := Option.some.inj hm
    subst hm
    exact X_iret dX11_when_14 rfl
def mX11_foreseeOwners_24 (P : Nat → Nat → Nat) (L : Nat → Nat → Int64)  : Nat → (Nat → Nat → Int32) → Int32 → Int32 → Int32 → Nat → Int32 → Int32 → Option ((Nat → Nat → Int32))
  | 0, _, _, _, _, _, _, _ => none
  | f + 1, I, a1, a2, a3, a4, a5, a6 => (if inb a2 4 = true then (if (I (a4 + 2) (ix a2)) ≤ a6 then (some I) else (if inb a2 4 = true then (if inb ((I (a4 + 1) (ix a2)) + a6) 16 = true then (Option.bind (mX0_with (L 25 (ix ((I (a4 + 1) (ix a2)) + a6))) a1 a5) (fun q5 => (Option.bind (mX7_afterRain I a4 (L 25 (ix ((I (a4 + 1) (ix a2)) + a6))) a5 a3) (fun q7 => (Option.bind (mX7_ownerOf I a4 q7 (a5 + a3)) (fun q9 => (if inb a6 6 = true then (Option.bind (mX7_afterRain (xu I 120 (ix a6) q9) a4 q5 a5 a3) (fun q12 => (Option.bind (mX7_ownerOf (xu I 120 (ix a6) q9) a4 q12 (a5 + a3)) (fun q14 => (if inb a6 6 = true then (mX11_foreseeOwners_24 P L f (xu (xu I 120 (ix a6) q9) 121 (ix a6) q14) a1 a2 a3 a4 a5 (a6 + 1)) else none))))) else none))))))) else none) else none)) else none)
set_option maxHeartbeats 400000 in
set_option maxRecDepth 100000 in
theorem kX11_foreseeOwners_24 {E : xE} {B : Nat} {n : Nat} {K : Nat → Nat × Nat} {P : Nat → Nat → Nat} {L : Nat → Nat → Int64}   {q : (Nat → Nat → Int32)} (d : Nat) (hd : 4 ≤ d) (G : GW K P)   : ∀ (f : Nat) (I : Nat → Nat → Int32) (a1 : Int32) (a2 : Int32) (a3 : Int32) (a4 : Nat) (a5 : Int32) (a6 : Int32), K a4 = (6, 0) → mX11_foreseeOwners_24 P L f I a1 a2 a3 a4 a5 a6 = some q → X E B d 0 0 yX11_foreseeOwners cX11_foreseeOwners 11 (none : Option Jvm.ClassFile.FieldType) (none, (n, K, P, q, L)) 24 [(0, .ref 1), (1, .int a1), (2, .int a2), (3, .int a3), (4, .ref a4), (5, .int a5), (6, .int a6)] [] 0 0 (n, K, P, I, L) := by
  obtain ⟨d, rfl⟩ : ∃ d0, d = d0 + 1 := ⟨d - 1, by omega⟩
  intro f
  induction f with
  | zero => intro _ _ _ _ _ _ _ _ hm; exact nomatch (show (none : Option ((Nat → Nat → Int32))) = some q from hm)
  | succ f ih =>
    intro I a1 a2 a3 a4 a5 a6 h4 hm
    rw [mX11_foreseeOwners_24] at hm
    refine X_iload 6 dX11_foreseeOwners_24 rfl ?_
    refine X_aload 4 dX11_foreseeOwners_26 rfl rfl ?_
    refine X_getPe fl_X11_198 h4 rfl (gl6_P10 G h4) dX11_foreseeOwners_28 ?_
    refine X_iload_n 2 dX11_foreseeOwners_31 rfl rfl ?_
    obtain ⟨g1, hm⟩ := og hm
    refine X_ialdJ (gl6_K2 G h4) g1 rfl dX11_foreseeOwners_32 ?_
    refine X_icmp_ge (tgt := 127) dX11_foreseeOwners_33 (by decide) (fun c2 => ?_) (fun c2 => ?_)
    · replace hm := ip c2 hm
      replace hm := Option.some.inj hm
      subst hm
      exact X_vret dX11_foreseeOwners_127 rfl
    · replace hm := iq c2 hm
      refine X_aload_n 0 dX11_foreseeOwners_36 rfl rfl rfl ?_
      refine X_getPe fl_X11_38 (g_K1 G) rfl (g_P1_6 G) dX11_foreseeOwners_37 ?_
      refine X_getPe fl_X11_142 (g_K12 G) rfl (g_P12_1 G) dX11_foreseeOwners_40 ?_
      refine X_getPe fl_X11_152 (g_K24 G) rfl (g_P24_0 G) dX11_foreseeOwners_43 ?_
      refine X_aload 4 dX11_foreseeOwners_46 rfl rfl ?_
      refine X_getPe fl_X11_195 h4 rfl (gl6_P9 G h4) dX11_foreseeOwners_48 ?_
      refine X_iload_n 2 dX11_foreseeOwners_51 rfl rfl ?_
      obtain ⟨g3, hm⟩ := og hm
      refine X_ialdJ (gl6_K1 G h4) g3 rfl dX11_foreseeOwners_52 ?_
      refine X_iload 6 dX11_foreseeOwners_53 rfl ?_
      refine X_iadd dX11_foreseeOwners_55 ?_
      obtain ⟨g4, hm⟩ := og hm
      refine X_laldJ (g_K25 G) g4 rfl dX11_foreseeOwners_56 ?_
      refine X_lstore (lv' := [(7, .long (L 25 (ix ((I (a4 + 1) (ix a2)) + a6)))), (0, .ref 1), (1, .int a1), (2, .int a2), (3, .int a3), (4, .ref a4), (5, .int a5), (6, .int a6)]) dX11_foreseeOwners_57 (by decide) rfl ?_
      refine X_lload 0 dX11_foreseeOwners_59 rfl ?_
      refine X_iload_n 2 dX11_foreseeOwners_61 rfl rfl ?_
      refine X_iload 6 dX11_foreseeOwners_62 rfl ?_
      obtain ⟨q5, e6, hm⟩ := ob hm
      refine X_cS1 (kX0_with d (by omega) G e6) ml_X11_304 ms_X0_with rfl rfl (Nat.le_refl _) ⟨Nat.le_refl _, Nat.le_refl _⟩ (Nat.le_of_ble_eq_true rfl) dX11_foreseeOwners_64 ?_
      refine X_lstore (lv' := [(9, .long q5), (7, .long (L 25 (ix ((I (a4 + 1) (ix a2)) + a6)))), (0, .ref 1), (1, .int a1), (2, .int a2), (3, .int a3), (4, .ref a4), (5, .int a5), (6, .int a6)]) dX11_foreseeOwners_67 (by decide) rfl ?_
      refine X_aload_n 2 dX11_foreseeOwners_69 rfl rfl rfl ?_
      refine X_getPe fl_X11_74 (g_K1 G) rfl (g_P1_12 G) dX11_foreseeOwners_70 ?_
      refine X_iload 8 dX11_foreseeOwners_73 rfl ?_
      refine X_aload 6 dX11_foreseeOwners_75 rfl rfl ?_
      refine X_aload 6 dX11_foreseeOwners_77 rfl rfl ?_
      refine X_lload 1 dX11_foreseeOwners_79 rfl ?_
      refine X_iload 7 dX11_foreseeOwners_81 rfl ?_
      refine X_iload_n 5 dX11_foreseeOwners_83 rfl rfl ?_
      obtain ⟨q7, e8, hm⟩ := ob hm
      refine X_cV1 (ci := 6) (kX7_afterRain d (by omega) G h4 e8) ml_X11_328 mi_X7_afterRain rfl cf_6 h4 rfl rfl (Nat.le_refl _) ⟨Nat.le_refl _, Nat.le_refl _⟩ (Nat.le_of_ble_eq_true rfl) dX11_foreseeOwners_84 ?_
      refine X_iload 7 dX11_foreseeOwners_87 rfl ?_
      refine X_iload_n 5 dX11_foreseeOwners_89 rfl rfl ?_
      refine X_iadd dX11_foreseeOwners_90 ?_
      obtain ⟨q9, e10, hm⟩ := ob hm
      refine X_cV1 (ci := 6) (kX7_ownerOf d (by omega) G h4 e10) ml_X11_168 mi_X7_ownerOf rfl cf_6 h4 rfl rfl (Nat.le_refl _) ⟨Nat.le_refl _, Nat.le_refl _⟩ (Nat.le_of_ble_eq_true rfl) dX11_foreseeOwners_91 ?_
      obtain ⟨g11, hm⟩ := og hm
      refine X_iastJ (g_K120 G) g11 rfl dX11_foreseeOwners_94 ?_
      refine X_aload_n 2 dX11_foreseeOwners_95 rfl rfl rfl ?_
      refine X_getPe fl_X11_78 (g_K1 G) rfl (g_P1_13 G) dX11_foreseeOwners_96 ?_
      refine X_iload 8 dX11_foreseeOwners_99 rfl ?_
      refine X_aload 6 dX11_foreseeOwners_101 rfl rfl ?_
      refine X_aload 6 dX11_foreseeOwners_103 rfl rfl ?_
      refine X_lload 0 dX11_foreseeOwners_105 rfl ?_
      refine X_iload 7 dX11_foreseeOwners_107 rfl ?_
      refine X_iload_n 5 dX11_foreseeOwners_109 rfl rfl ?_
      obtain ⟨q12, e13, hm⟩ := ob hm
      refine X_cV1 (ci := 6) (kX7_afterRain d (by omega) G h4 e13) ml_X11_328 mi_X7_afterRain rfl cf_6 h4 rfl rfl (Nat.le_refl _) ⟨Nat.le_refl _, Nat.le_refl _⟩ (Nat.le_of_ble_eq_true rfl) dX11_foreseeOwners_110 ?_
      refine X_iload 7 dX11_foreseeOwners_113 rfl ?_
      refine X_iload_n 5 dX11_foreseeOwners_115 rfl rfl ?_
      refine X_iadd dX11_foreseeOwners_116 ?_
      obtain ⟨q14, e15, hm⟩ := ob hm
      refine X_cV1 (ci := 6) (kX7_ownerOf d (by omega) G h4 e15) ml_X11_168 mi_X7_ownerOf rfl cf_6 h4 rfl rfl (Nat.le_refl _) ⟨Nat.le_refl _, Nat.le_refl _⟩ (Nat.le_of_ble_eq_true rfl) dX11_foreseeOwners_117 ?_
      obtain ⟨g16, hm⟩ := og hm
      refine X_iastJ (g_K121 G) g16 rfl dX11_foreseeOwners_120 ?_
      refine X_iinc (lv' := [(6, .int (a6 + 1)), (9, .long q5), (7, .long (L 25 (ix ((I (a4 + 1) (ix a2)) + a6)))), (0, .ref 1), (1, .int a1), (2, .int a2), (3, .int a3), (4, .ref a4), (5, .int a5)]) 8 dX11_foreseeOwners_121 rfl rfl (by decide) rfl ?_
      refine X_goto (tgt := 24) dX11_foreseeOwners_124 (by decide) ?_
      exact X_lv [3, 4, 5, 6, 7, 8, 0] rfl (ih _ _ _ _ _ _ _ h4 hm)
def mX11_foreseeOwners (P : Nat → Nat → Nat) (L : Nat → Nat → Int64) (I : Nat → Nat → Int32) (a1 : Int32) (a2 : Int32) (a3 : Int32) : Option ((Nat → Nat → Int32)) := (mX11_foreseeOwners_24 P L xf I a1 a2 a3 (P 12 0) (I 24 2) (0 : Int32))
set_option maxHeartbeats 400000 in
set_option maxRecDepth 100000 in
theorem kX11_foreseeOwners {E : xE} {B : Nat} {n : Nat} {K : Nat → Nat × Nat} {P : Nat → Nat → Nat} {I : Nat → Nat → Int32} {L : Nat → Nat → Int64}  {a1 : Int32} {a2 : Int32} {a3 : Int32} {q : (Nat → Nat → Int32)} (d : Nat) (hd : 4 ≤ d) (G : GW K P)   (hm : mX11_foreseeOwners P L I a1 a2 a3 = some q) : MX E B d 0 0 yX11_foreseeOwners cX11_foreseeOwners 11 (none : Option Jvm.ClassFile.FieldType) [.ref 1, .int a1, .int a2, .int a3] (n, K, P, I, L) (none, (n, K, P, q, L)) := by
  refine MX_of (lv := [(0, .ref 1), (1, .int a1), (2, .int a2), (3, .int a3)]) (by decide +kernel) (Nat.le_of_ble_eq_true rfl) rfl ?_
  obtain ⟨d, rfl⟩ : ∃ d0, d = d0 + 1 := ⟨d - 1, by omega⟩
  unfold mX11_foreseeOwners at hm
  refine X_aload_n 0 dX11_foreseeOwners_0 rfl rfl rfl ?_
  refine X_getPe fl_X11_38 (g_K1 G) rfl (g_P1_6 G) dX11_foreseeOwners_1 ?_
  refine X_getP fl_X11_116 (g_K12 G) rfl dX11_foreseeOwners_4 ?_
  refine X_astore (lv' := [(4, .ref (P 12 0)), (0, .ref 1), (1, .int a1), (2, .int a2), (3, .int a3)]) dX11_foreseeOwners_7 (by decide) rfl rfl ?_
  refine X_aload_n 1 dX11_foreseeOwners_9 rfl rfl rfl ?_
  refine X_getPe fl_X11_38 (g_K1 G) rfl (g_P1_6 G) dX11_foreseeOwners_10 ?_
  refine X_getPe fl_X11_142 (g_K12 G) rfl (g_P12_1 G) dX11_foreseeOwners_13 ?_
  refine X_getI fl_X11_165 (g_K24 G) rfl dX11_foreseeOwners_16 ?_
  refine X_istore (lv' := [(5, .int (I 24 2)), (4, .ref (P 12 0)), (0, .ref 1), (1, .int a1), (2, .int a2), (3, .int a3)]) dX11_foreseeOwners_19 (by decide) rfl ?_
  refine X_iconst (v := (0 : Int32)) dX11_foreseeOwners_21 (by decide) ?_
  refine X_istore (lv' := [(6, .int (0 : Int32)), (5, .int (I 24 2)), (4, .ref (P 12 0)), (0, .ref 1), (1, .int a1), (2, .int a2), (3, .int a3)]) dX11_foreseeOwners_22 (by decide) rfl ?_
  refine X_lv [3, 4, 5, 6, 2, 1, 0] rfl (kX11_foreseeOwners_24 _ hd G xf _ _ _ _ _ _ _ (gl9_st G (g_K12 G)) hm)
def mJ6_bitCount_0f7a4  (a0 : Int32) : Option (Int32) := (some ((((((((a0 - ((xushr a0 (1 : Int32)) &&& (1431655765 : Int32))) &&& (858993459 : Int32)) + ((xushr (a0 - ((xushr a0 (1 : Int32)) &&& (1431655765 : Int32))) (2 : Int32)) &&& (858993459 : Int32))) + (xushr (((a0 - ((xushr a0 (1 : Int32)) &&& (1431655765 : Int32))) &&& (858993459 : Int32)) + ((xushr (a0 - ((xushr a0 (1 : Int32)) &&& (1431655765 : Int32))) (2 : Int32)) &&& (858993459 : Int32))) (4 : Int32))) &&& (252645135 : Int32)) + (xushr (((((a0 - ((xushr a0 (1 : Int32)) &&& (1431655765 : Int32))) &&& (858993459 : Int32)) + ((xushr (a0 - ((xushr a0 (1 : Int32)) &&& (1431655765 : Int32))) (2 : Int32)) &&& (858993459 : Int32))) + (xushr (((a0 - ((xushr a0 (1 : Int32)) &&& (1431655765 : Int32))) &&& (858993459 : Int32)) + ((xushr (a0 - ((xushr a0 (1 : Int32)) &&& (1431655765 : Int32))) (2 : Int32)) &&& (858993459 : Int32))) (4 : Int32))) &&& (252645135 : Int32)) (8 : Int32))) + (xushr ((((((a0 - ((xushr a0 (1 : Int32)) &&& (1431655765 : Int32))) &&& (858993459 : Int32)) + ((xushr (a0 - ((xushr a0 (1 : Int32)) &&& (1431655765 : Int32))) (2 : Int32)) &&& (858993459 : Int32))) + (xushr (((a0 - ((xushr a0 (1 : Int32)) &&& (1431655765 : Int32))) &&& (858993459 : Int32)) + ((xushr (a0 - ((xushr a0 (1 : Int32)) &&& (1431655765 : Int32))) (2 : Int32)) &&& (858993459 : Int32))) (4 : Int32))) &&& (252645135 : Int32)) + (xushr (((((a0 - ((xushr a0 (1 : Int32)) &&& (1431655765 : Int32))) &&& (858993459 : Int32)) + ((xushr (a0 - ((xushr a0 (1 : Int32)) &&& (1431655765 : Int32))) (2 : Int32)) &&& (858993459 : Int32))) + (xushr (((a0 - ((xushr a0 (1 : Int32)) &&& (1431655765 : Int32))) &&& (858993459 : Int32)) + ((xushr (a0 - ((xushr a0 (1 : Int32)) &&& (1431655765 : Int32))) (2 : Int32)) &&& (858993459 : Int32))) (4 : Int32))) &&& (252645135 : Int32)) (8 : Int32))) (16 : Int32))) &&& (63 : Int32)))
set_option maxHeartbeats 400000 in
set_option maxRecDepth 100000 in
theorem kJ6_bitCount_0f7a4 {E : xE} {B : Nat} {n : Nat} {K : Nat → Nat × Nat} {P : Nat → Nat → Nat} {I : Nat → Nat → Int32} {L : Nat → Nat → Int64}  {a0 : Int32} {q : Int32} (d : Nat) (hd : 0 ≤ d) (G : GW K P)   (hm : mJ6_bitCount_0f7a4 a0 = some q) : MX E B d 0 0 yJ6_bitCount_0f7a4 cJ6_bitCount_0f7a4 1 (some .int) [.int a0] (n, K, P, I, L) (some (.int q), (n, K, P, I, L)) := by
  refine MX_ofJ (lv := [(0, .int a0)]) (by decide +kernel) (Nat.le_of_ble_eq_true rfl) rfl ?_
  unfold mJ6_bitCount_0f7a4 at hm
  refine X_iload_n 0 dJ6_bitCount_0f7a4_0 rfl rfl ?_
  refine X_iload_n 0 dJ6_bitCount_0f7a4_1 rfl rfl ?_
  refine X_iconst (v := (1 : Int32)) dJ6_bitCount_0f7a4_2 (by decide) ?_
  refine X_iushr dJ6_bitCount_0f7a4_3 ?_
  refine X_ldc_w lc_J6_265 dJ6_bitCount_0f7a4_4 ?_
  refine X_iand dJ6_bitCount_0f7a4_7 ?_
  refine X_isub dJ6_bitCount_0f7a4_8 ?_
  refine X_istore_n (lv' := [(0, .int (a0 - ((xushr a0 (1 : Int32)) &&& (1431655765 : Int32))))]) dJ6_bitCount_0f7a4_9 rfl (by decide) rfl ?_
  refine X_iload_n 0 dJ6_bitCount_0f7a4_10 rfl rfl ?_
  refine X_ldc_w lc_J6_266 dJ6_bitCount_0f7a4_11 ?_
  refine X_iand dJ6_bitCount_0f7a4_14 ?_
  refine X_iload_n 0 dJ6_bitCount_0f7a4_15 rfl rfl ?_
  refine X_iconst (v := (2 : Int32)) dJ6_bitCount_0f7a4_16 (by decide) ?_
  refine X_iushr dJ6_bitCount_0f7a4_17 ?_
  refine X_ldc_w lc_J6_266 dJ6_bitCount_0f7a4_18 ?_
  refine X_iand dJ6_bitCount_0f7a4_21 ?_
  refine X_iadd dJ6_bitCount_0f7a4_22 ?_
  refine X_istore_n (lv' := [(0, .int (((a0 - ((xushr a0 (1 : Int32)) &&& (1431655765 : Int32))) &&& (858993459 : Int32)) + ((xushr (a0 - ((xushr a0 (1 : Int32)) &&& (1431655765 : Int32))) (2 : Int32)) &&& (858993459 : Int32))))]) dJ6_bitCount_0f7a4_23 rfl (by decide) rfl ?_
  refine X_iload_n 0 dJ6_bitCount_0f7a4_24 rfl rfl ?_
  refine X_iload_n 0 dJ6_bitCount_0f7a4_25 rfl rfl ?_
  refine X_iconst (v := (4 : Int32)) dJ6_bitCount_0f7a4_26 (by decide) ?_
  refine X_iushr dJ6_bitCount_0f7a4_27 ?_
  refine X_iadd dJ6_bitCount_0f7a4_28 ?_
  refine X_ldc_w lc_J6_267 dJ6_bitCount_0f7a4_29 ?_
  refine X_iand dJ6_bitCount_0f7a4_32 ?_
  refine X_istore_n (lv' := [(0, .int (((((a0 - ((xushr a0 (1 : Int32)) &&& (1431655765 : Int32))) &&& (858993459 : Int32)) + ((xushr (a0 - ((xushr a0 (1 : Int32)) &&& (1431655765 : Int32))) (2 : Int32)) &&& (858993459 : Int32))) + (xushr (((a0 - ((xushr a0 (1 : Int32)) &&& (1431655765 : Int32))) &&& (858993459 : Int32)) + ((xushr (a0 - ((xushr a0 (1 : Int32)) &&& (1431655765 : Int32))) (2 : Int32)) &&& (858993459 : Int32))) (4 : Int32))) &&& (252645135 : Int32)))]) dJ6_bitCount_0f7a4_33 rfl (by decide) rfl ?_
  refine X_iload_n 0 dJ6_bitCount_0f7a4_34 rfl rfl ?_
  refine X_iload_n 0 dJ6_bitCount_0f7a4_35 rfl rfl ?_
  refine X_bipush (v := (8 : Int32)) dJ6_bitCount_0f7a4_36 (by decide) ?_
  refine X_iushr dJ6_bitCount_0f7a4_38 ?_
  refine X_iadd dJ6_bitCount_0f7a4_39 ?_
  refine X_istore_n (lv' := [(0, .int ((((((a0 - ((xushr a0 (1 : Int32)) &&& (1431655765 : Int32))) &&& (858993459 : Int32)) + ((xushr (a0 - ((xushr a0 (1 : Int32)) &&& (1431655765 : Int32))) (2 : Int32)) &&& (858993459 : Int32))) + (xushr (((a0 - ((xushr a0 (1 : Int32)) &&& (1431655765 : Int32))) &&& (858993459 : Int32)) + ((xushr (a0 - ((xushr a0 (1 : Int32)) &&& (1431655765 : Int32))) (2 : Int32)) &&& (858993459 : Int32))) (4 : Int32))) &&& (252645135 : Int32)) + (xushr (((((a0 - ((xushr a0 (1 : Int32)) &&& (1431655765 : Int32))) &&& (858993459 : Int32)) + ((xushr (a0 - ((xushr a0 (1 : Int32)) &&& (1431655765 : Int32))) (2 : Int32)) &&& (858993459 : Int32))) + (xushr (((a0 - ((xushr a0 (1 : Int32)) &&& (1431655765 : Int32))) &&& (858993459 : Int32)) + ((xushr (a0 - ((xushr a0 (1 : Int32)) &&& (1431655765 : Int32))) (2 : Int32)) &&& (858993459 : Int32))) (4 : Int32))) &&& (252645135 : Int32)) (8 : Int32))))]) dJ6_bitCount_0f7a4_40 rfl (by decide) rfl ?_
  refine X_iload_n 0 dJ6_bitCount_0f7a4_41 rfl rfl ?_
  refine X_iload_n 0 dJ6_bitCount_0f7a4_42 rfl rfl ?_
  refine X_bipush (v := (16 : Int32)) dJ6_bitCount_0f7a4_43 (by decide) ?_
  refine X_iushr dJ6_bitCount_0f7a4_45 ?_
  refine X_iadd dJ6_bitCount_0f7a4_46 ?_
  refine X_istore_n (lv' := [(0, .int (((((((a0 - ((xushr a0 (1 : Int32)) &&& (1431655765 : Int32))) &&& (858993459 : Int32)) + ((xushr (a0 - ((xushr a0 (1 : Int32)) &&& (1431655765 : Int32))) (2 : Int32)) &&& (858993459 : Int32))) + (xushr (((a0 - ((xushr a0 (1 : Int32)) &&& (1431655765 : Int32))) &&& (858993459 : Int32)) + ((xushr (a0 - ((xushr a0 (1 : Int32)) &&& (1431655765 : Int32))) (2 : Int32)) &&& (858993459 : Int32))) (4 : Int32))) &&& (252645135 : Int32)) + (xushr (((((a0 - ((xushr a0 (1 : Int32)) &&& (1431655765 : Int32))) &&& (858993459 : Int32)) + ((xushr (a0 - ((xushr a0 (1 : Int32)) &&& (1431655765 : Int32))) (2 : Int32)) &&& (858993459 : Int32))) + (xushr (((a0 - ((xushr a0 (1 : Int32)) &&& (1431655765 : Int32))) &&& (858993459 : Int32)) + ((xushr (a0 - ((xushr a0 (1 : Int32)) &&& (1431655765 : Int32))) (2 : Int32)) &&& (858993459 : Int32))) (4 : Int32))) &&& (252645135 : Int32)) (8 : Int32))) + (xushr ((((((a0 - ((xushr a0 (1 : Int32)) &&& (1431655765 : Int32))) &&& (858993459 : Int32)) + ((xushr (a0 - ((xushr a0 (1 : Int32)) &&& (1431655765 : Int32))) (2 : Int32)) &&& (858993459 : Int32))) + (xushr (((a0 - ((xushr a0 (1 : Int32)) &&& (1431655765 : Int32))) &&& (858993459 : Int32)) + ((xushr (a0 - ((xushr a0 (1 : Int32)) &&& (1431655765 : Int32))) (2 : Int32)) &&& (858993459 : Int32))) (4 : Int32))) &&& (252645135 : Int32)) + (xushr (((((a0 - ((xushr a0 (1 : Int32)) &&& (1431655765 : Int32))) &&& (858993459 : Int32)) + ((xushr (a0 - ((xushr a0 (1 : Int32)) &&& (1431655765 : Int32))) (2 : Int32)) &&& (858993459 : Int32))) + (xushr (((a0 - ((xushr a0 (1 : Int32)) &&& (1431655765 : Int32))) &&& (858993459 : Int32)) + ((xushr (a0 - ((xushr a0 (1 : Int32)) &&& (1431655765 : Int32))) (2 : Int32)) &&& (858993459 : Int32))) (4 : Int32))) &&& (252645135 : Int32)) (8 : Int32))) (16 : Int32))))]) dJ6_bitCount_0f7a4_47 rfl (by decide) rfl ?_
  refine X_iload_n 0 dJ6_bitCount_0f7a4_48 rfl rfl ?_
  refine X_bipush (v := (63 : Int32)) dJ6_bitCount_0f7a4_49 (by decide) ?_
  refine X_iand dJ6_bitCount_0f7a4_51 ?_
  replace hm := Option.some.inj hm
  subst hm
  exact X_iret dJ6_bitCount_0f7a4_52 rfl
def mX11_leastSet_69 (P : Nat → Nat → Nat) (I : Nat → Nat → Int32) (b33 : Int32 → Int32 → Int32 → Int32 → Int32 → Int32 → Option (Int32)) (e81 : Int32 → Int32 → Int32 → Int32 → Int32 → Option (Int32)) (a1 : Int32) (a3 : Int32) (a4 : Int32) (a5 : Int32) (a7 : Int32) (t0 : Int32) (t1 : Int32) : Option (Int32) := (Option.bind (mX7_oneFor t0) (fun q6 => (b33 a1 a3 a4 a5 (t1 + q6) (a7 + 1))))
set_option maxHeartbeats 400000 in
set_option maxRecDepth 100000 in
theorem kX11_leastSet_69 {E : xE} {B : Nat} {n : Nat} {K : Nat → Nat × Nat} {P : Nat → Nat → Nat} {I : Nat → Nat → Int32} {L : Nat → Nat → Int64}  {b33 : Int32 → Int32 → Int32 → Int32 → Int32 → Int32 → Option (Int32)} {e81 : Int32 → Int32 → Int32 → Int32 → Int32 → Option (Int32)} {a1 : Int32} {a3 : Int32} {a4 : Int32} {a5 : Int32} {a7 : Int32} {t0 : Int32} {t1 : Int32} {q : Int32} (d : Nat) (hd : 2 ≤ d) (G : GW K P)  (hb33 : ∀ (a1 : Int32) (a3 : Int32) (a4 : Int32) (a5 : Int32) (a6 : Int32) (a7 : Int32), b33 a1 a3 a4 a5 a6 a7 = some q → X E B d 0 0 yX11_leastSet cX11_leastSet 8 (some .int) (some (.int q), (n, K, P, I, L)) 33 [(0, .ref 1), (1, .int a1), (3, .int a3), (4, .int a4), (5, .int a5), (6, .int a6), (7, .int a7)] [] 0 0 (n, K, P, I, L)) (he81 : ∀ (a1 : Int32) (a3 : Int32) (a4 : Int32) (a5 : Int32) (a6 : Int32), e81 a1 a3 a4 a5 a6 = some q → X E B d 0 0 yX11_leastSet cX11_leastSet 8 (some .int) (some (.int q), (n, K, P, I, L)) 81 [(0, .ref 1), (1, .int a1), (3, .int a3), (4, .int a4), (5, .int a5), (6, .int a6)] [] 0 0 (n, K, P, I, L))  (hm : mX11_leastSet_69 P I b33 e81 a1 a3 a4 a5 a7 t0 t1 = some q) : X E B d 0 0 yX11_leastSet cX11_leastSet 8 (some .int) (some (.int q), (n, K, P, I, L)) 69 [(0, .ref 1), (1, .int a1), (3, .int a3), (4, .int a4), (5, .int a5), (7, .int a7)] [.int t0, .int t1] 0 0 (n, K, P, I, L) := by
  obtain ⟨d, rfl⟩ : ∃ d0, d = d0 + 1 := ⟨d - 1, by omega⟩
  unfold mX11_leastSet_69 at hm
  obtain ⟨q6, e7, hm⟩ := ob hm
  refine X_cS1 (kX7_oneFor d (by omega) G e7) ml_X11_331 ms_X7_oneFor rfl rfl (Nat.le_refl _) ⟨Nat.le_refl _, Nat.le_refl _⟩ (Nat.le_of_ble_eq_true rfl) dX11_leastSet_69 ?_
  refine X_iadd dX11_leastSet_72 ?_
  refine X_istore (lv' := [(6, .int (t1 + q6)), (0, .ref 1), (1, .int a1), (3, .int a3), (4, .int a4), (5, .int a5), (7, .int a7)]) dX11_leastSet_73 (by decide) rfl ?_
  refine X_iinc (lv' := [(7, .int (a7 + 1)), (6, .int (t1 + q6)), (0, .ref 1), (1, .int a1), (3, .int a3), (4, .int a4), (5, .int a5)]) 6 dX11_leastSet_75 rfl rfl (by decide) rfl ?_
  refine X_goto (tgt := 33) dX11_leastSet_78 (by decide) ?_
  exact X_lv [2, 3, 4, 5, 6, 1, 0] rfl (hb33 _ _ _ _ _ _ hm)
def mX11_leastSet_33 (P : Nat → Nat → Nat) (I : Nat → Nat → Int32) (e81 : Int32 → Int32 → Int32 → Int32 → Int32 → Option (Int32)) : Nat → Int32 → Int32 → Int32 → Int32 → Int32 → Int32 → Option (Int32)
  | 0, _, _, _, _, _, _ => none
  | f + 1, a1, a3, a4, a5, a6, a7 => (if a3 ≤ a7 then (e81 a1 a3 a4 a5 a6) else (if ((xshr a5 a7) &&& (1 : Int32)) = (1 : Int32) then (if inb a7 6 = true then (mX11_leastSet_69 P I (fun (a1 : Int32) (a3 : Int32) (a4 : Int32) (a5 : Int32) (a6 : Int32) (a7 : Int32) => mX11_leastSet_33 P I e81 f a1 a3 a4 a5 a6 a7) e81 a1 a3 a4 a5 a7 (I 121 (ix a7)) a6) else none) else (if inb a7 6 = true then (mX11_leastSet_69 P I (fun (a1 : Int32) (a3 : Int32) (a4 : Int32) (a5 : Int32) (a6 : Int32) (a7 : Int32) => mX11_leastSet_33 P I e81 f a1 a3 a4 a5 a6 a7) e81 a1 a3 a4 a5 a7 (I 120 (ix a7)) a6) else none)))
set_option maxHeartbeats 400000 in
set_option maxRecDepth 100000 in
theorem kX11_leastSet_33 {E : xE} {B : Nat} {n : Nat} {K : Nat → Nat × Nat} {P : Nat → Nat → Nat} {I : Nat → Nat → Int32} {L : Nat → Nat → Int64}  {e81 : Int32 → Int32 → Int32 → Int32 → Int32 → Option (Int32)} {q : Int32} (d : Nat) (hd : 2 ≤ d) (G : GW K P)  (he81 : ∀ (a1 : Int32) (a3 : Int32) (a4 : Int32) (a5 : Int32) (a6 : Int32), e81 a1 a3 a4 a5 a6 = some q → X E B d 0 0 yX11_leastSet cX11_leastSet 8 (some .int) (some (.int q), (n, K, P, I, L)) 81 [(0, .ref 1), (1, .int a1), (3, .int a3), (4, .int a4), (5, .int a5), (6, .int a6)] [] 0 0 (n, K, P, I, L)) : ∀ (f : Nat) (a1 : Int32) (a3 : Int32) (a4 : Int32) (a5 : Int32) (a6 : Int32) (a7 : Int32), mX11_leastSet_33 P I e81 f a1 a3 a4 a5 a6 a7 = some q → X E B d 0 0 yX11_leastSet cX11_leastSet 8 (some .int) (some (.int q), (n, K, P, I, L)) 33 [(0, .ref 1), (1, .int a1), (3, .int a3), (4, .int a4), (5, .int a5), (6, .int a6), (7, .int a7)] [] 0 0 (n, K, P, I, L) := by
  obtain ⟨d, rfl⟩ : ∃ d0, d = d0 + 1 := ⟨d - 1, by omega⟩
  intro f
  induction f with
  | zero => intro _ _ _ _ _ _ hm; exact nomatch (show (none : Option (Int32)) = some q from hm)
  | succ f ih =>
    intro a1 a3 a4 a5 a6 a7 hm
    rw [mX11_leastSet_33] at hm
    refine X_iload 6 dX11_leastSet_33 rfl ?_
    refine X_iload_n 2 dX11_leastSet_35 rfl rfl ?_
    refine X_icmp_ge (tgt := 81) dX11_leastSet_36 (by decide) (fun c3 => ?_) (fun c3 => ?_)
    · replace hm := ip c3 hm
      exact X_lv [0, 1, 2, 3, 4, 5] rfl (he81 _ _ _ _ _ hm)
    · replace hm := iq c3 hm
      refine X_iload 5 dX11_leastSet_39 rfl ?_
      refine X_iload 4 dX11_leastSet_41 rfl ?_
      refine X_iload 6 dX11_leastSet_43 rfl ?_
      refine X_ishr dX11_leastSet_45 ?_
      refine X_iconst (v := (1 : Int32)) dX11_leastSet_46 (by decide) ?_
      refine X_iand dX11_leastSet_47 ?_
      refine X_iconst (v := (1 : Int32)) dX11_leastSet_48 (by decide) ?_
      refine X_icmp_ne (tgt := 62) dX11_leastSet_49 (by decide) (fun c4 => ?_) (fun c4 => ?_)
      · replace hm := iq c4 hm
        refine X_aload_n 0 dX11_leastSet_62 rfl rfl rfl ?_
        refine X_getPe fl_X11_74 (g_K1 G) rfl (g_P1_12 G) dX11_leastSet_63 ?_
        refine X_iload 6 dX11_leastSet_66 rfl ?_
        obtain ⟨g5, hm⟩ := og hm
        refine X_ialdJ (g_K120 G) g5 rfl dX11_leastSet_68 ?_
        exact X_lv [0, 1, 2, 3, 4, 6] rfl (kX11_leastSet_69 _ hd G ih he81 hm)
      · replace hm := ip c4 hm
        refine X_aload_n 0 dX11_leastSet_52 rfl rfl rfl ?_
        refine X_getPe fl_X11_78 (g_K1 G) rfl (g_P1_13 G) dX11_leastSet_53 ?_
        refine X_iload 6 dX11_leastSet_56 rfl ?_
        obtain ⟨g8, hm⟩ := og hm
        refine X_ialdJ (g_K121 G) g8 rfl dX11_leastSet_58 ?_
        refine X_goto (tgt := 69) dX11_leastSet_59 (by decide) ?_
        exact X_lv [0, 1, 2, 3, 4, 6] rfl (kX11_leastSet_69 _ hd G ih he81 hm)
def mX11_leastSet_19 (P : Nat → Nat → Nat) (I : Nat → Nat → Int32)  : Nat → Int32 → Int32 → Int32 → Int32 → Option (Int32)
  | 0, _, _, _, _ => none
  | f + 1, a1, a3, a4, a5 => (if (xshl (1 : Int32) a3) ≤ a5 then (some a4) else (mX11_leastSet_33 P I (fun (a1_9 : Int32) (a3_9 : Int32) (a4_9 : Int32) (a5_9 : Int32) (a6_9 : Int32) => (Option.bind (mX7_ownerBy a6_9 a3_9 (I (P 12 0) 2)) (fun q10 => (if q10 = a1_9 then (if a4_9 = (-1 : Int32) then (mX11_leastSet_19 P I f a1_9 a3_9 a5_9 (a5_9 + 1)) else (Option.bind (mJ6_bitCount_0f7a4 a5_9) (fun q14 => (Option.bind (mJ6_bitCount_0f7a4 a4_9) (fun q16 => (if q16 ≤ q14 then (mX11_leastSet_19 P I f a1_9 a3_9 a4_9 (a5_9 + 1)) else (mX11_leastSet_19 P I f a1_9 a3_9 a5_9 (a5_9 + 1)))))))) else (mX11_leastSet_19 P I f a1_9 a3_9 a4_9 (a5_9 + 1)))))) xf a1 a3 a4 a5 (0 : Int32) (0 : Int32)))
set_option maxHeartbeats 400000 in
set_option maxRecDepth 100000 in
theorem kX11_leastSet_19 {E : xE} {B : Nat} {n : Nat} {K : Nat → Nat × Nat} {P : Nat → Nat → Nat} {I : Nat → Nat → Int32} {L : Nat → Nat → Int64}   {q : Int32} (d : Nat) (hd : 2 ≤ d) (G : GW K P)   : ∀ (f : Nat) (a1 : Int32) (a3 : Int32) (a4 : Int32) (a5 : Int32), mX11_leastSet_19 P I f a1 a3 a4 a5 = some q → X E B d 0 0 yX11_leastSet cX11_leastSet 8 (some .int) (some (.int q), (n, K, P, I, L)) 19 [(0, .ref 1), (1, .int a1), (3, .int a3), (4, .int a4), (5, .int a5)] [] 0 0 (n, K, P, I, L) := by
  obtain ⟨d, rfl⟩ : ∃ d0, d = d0 + 1 := ⟨d - 1, by omega⟩
  intro f
  induction f with
  | zero => intro _ _ _ _ hm; exact nomatch (show (none : Option (Int32)) = some q from hm)
  | succ f ih =>
    intro a1 a3 a4 a5 hm
    rw [mX11_leastSet_19] at hm
    refine X_iload 4 dX11_leastSet_19 rfl ?_
    refine X_iconst (v := (1 : Int32)) dX11_leastSet_21 (by decide) ?_
    refine X_iload_n 2 dX11_leastSet_22 rfl rfl ?_
    refine X_ishl dX11_leastSet_23 ?_
    refine X_icmp_ge (tgt := 130) dX11_leastSet_24 (by decide) (fun c2 => ?_) (fun c2 => ?_)
    · replace hm := ip c2 hm
      refine X_iload 3 dX11_leastSet_130 rfl ?_
      replace hm := Option.some.inj hm
      subst hm
      exact X_iret dX11_leastSet_132 rfl
    · replace hm := iq c2 hm
      refine X_iconst (v := (0 : Int32)) dX11_leastSet_27 (by decide) ?_
      refine X_istore (lv' := [(6, .int (0 : Int32)), (0, .ref 1), (1, .int a1), (3, .int a3), (4, .int a4), (5, .int a5)]) dX11_leastSet_28 (by decide) rfl ?_
      refine X_iconst (v := (0 : Int32)) dX11_leastSet_30 (by decide) ?_
      refine X_istore (lv' := [(7, .int (0 : Int32)), (6, .int (0 : Int32)), (0, .ref 1), (1, .int a1), (3, .int a3), (4, .int a4), (5, .int a5)]) dX11_leastSet_31 (by decide) rfl ?_
      refine X_lv [2, 3, 4, 5, 6, 1, 0] rfl (kX11_leastSet_33 _ hd G (fun a1_9 a3_9 a4_9 a5_9 a6_9 hm => ?_) xf _ _ _ _ _ _  hm)
      refine X_iload 5 dX11_leastSet_81 rfl ?_
      refine X_iload_n 2 dX11_leastSet_83 rfl rfl ?_
      refine X_aload_n 0 dX11_leastSet_84 rfl rfl rfl ?_
      refine X_getPe fl_X11_38 (g_K1 G) rfl (g_P1_6 G) dX11_leastSet_85 ?_
      refine X_getP fl_X11_116 (g_K12 G) rfl dX11_leastSet_88 ?_
      refine X_getI fl_X11_248 (gl9_st G (g_K12 G)) rfl dX11_leastSet_91 ?_
      obtain ⟨q10, e11, hm⟩ := ob hm
      refine X_cS1 (kX7_ownerBy d (by omega) G e11) ml_X11_334 ms_X7_ownerBy rfl rfl (Nat.le_refl _) ⟨Nat.le_refl _, Nat.le_refl _⟩ (Nat.le_of_ble_eq_true rfl) dX11_leastSet_94 ?_
      refine X_iload_n 1 dX11_leastSet_97 rfl rfl ?_
      refine X_icmp_ne (tgt := 124) dX11_leastSet_98 (by decide) (fun c12 => ?_) (fun c12 => ?_)
      · replace hm := iq c12 hm
        refine X_iinc (lv' := [(5, .int (a5_9 + 1)), (0, .ref 1), (1, .int a1_9), (3, .int a3_9), (4, .int a4_9), (6, .int a6_9)]) 4 dX11_leastSet_124 rfl rfl (by decide) rfl ?_
        refine X_goto (tgt := 19) dX11_leastSet_127 (by decide) ?_
        exact X_lv [1, 2, 3, 4, 0] rfl (ih _ _ _ _ hm)
      · replace hm := ip c12 hm
        refine X_iload 3 dX11_leastSet_101 rfl ?_
        refine X_iconst (v := (-1 : Int32)) dX11_leastSet_103 (by decide) ?_
        refine X_icmp_eq (tgt := 120) dX11_leastSet_104 (by decide) (fun c13 => ?_) (fun c13 => ?_)
        · replace hm := ip c13 hm
          refine X_iload 4 dX11_leastSet_120 rfl ?_
          refine X_istore (lv' := [(4, .int a5_9), (0, .ref 1), (1, .int a1_9), (3, .int a3_9), (5, .int a5_9), (6, .int a6_9)]) dX11_leastSet_122 (by decide) rfl ?_
          refine X_iinc (lv' := [(5, .int (a5_9 + 1)), (4, .int a5_9), (0, .ref 1), (1, .int a1_9), (3, .int a3_9), (6, .int a6_9)]) 4 dX11_leastSet_124 rfl rfl (by decide) rfl ?_
          refine X_goto (tgt := 19) dX11_leastSet_127 (by decide) ?_
          exact X_lv [2, 3, 4, 1, 0] rfl (ih _ _ _ _ hm)
        · replace hm := iq c13 hm
          refine X_iload 4 dX11_leastSet_107 rfl ?_
          obtain ⟨q14, e15, hm⟩ := ob hm
          refine X_cS1 (kJ6_bitCount_0f7a4 d (by omega) G e15) ml_X11_323 ms_J6_bitCount_0f7a4 rfl rfl (Nat.le_refl _) ⟨Nat.le_refl _, Nat.le_refl _⟩ (Nat.le_of_ble_eq_true rfl) dX11_leastSet_109 ?_
          refine X_iload 3 dX11_leastSet_112 rfl ?_
          obtain ⟨q16, e17, hm⟩ := ob hm
          refine X_cS1 (kJ6_bitCount_0f7a4 d (by omega) G e17) ml_X11_323 ms_J6_bitCount_0f7a4 rfl rfl (Nat.le_refl _) ⟨Nat.le_refl _, Nat.le_refl _⟩ (Nat.le_of_ble_eq_true rfl) dX11_leastSet_114 ?_
          refine X_icmp_ge (tgt := 124) dX11_leastSet_117 (by decide) (fun c18 => ?_) (fun c18 => ?_)
          · replace hm := ip c18 hm
            refine X_iinc (lv' := [(5, .int (a5_9 + 1)), (0, .ref 1), (1, .int a1_9), (3, .int a3_9), (4, .int a4_9), (6, .int a6_9)]) 4 dX11_leastSet_124 rfl rfl (by decide) rfl ?_
            refine X_goto (tgt := 19) dX11_leastSet_127 (by decide) ?_
            exact X_lv [1, 2, 3, 4, 0] rfl (ih _ _ _ _ hm)
          · replace hm := iq c18 hm
            refine X_iload 4 dX11_leastSet_120 rfl ?_
            refine X_istore (lv' := [(4, .int a5_9), (0, .ref 1), (1, .int a1_9), (3, .int a3_9), (5, .int a5_9), (6, .int a6_9)]) dX11_leastSet_122 (by decide) rfl ?_
            refine X_iinc (lv' := [(5, .int (a5_9 + 1)), (4, .int a5_9), (0, .ref 1), (1, .int a1_9), (3, .int a3_9), (6, .int a6_9)]) 4 dX11_leastSet_124 rfl rfl (by decide) rfl ?_
            refine X_goto (tgt := 19) dX11_leastSet_127 (by decide) ?_
            exact X_lv [2, 3, 4, 1, 0] rfl (ih _ _ _ _ hm)
def mX11_leastSet (P : Nat → Nat → Nat) (I : Nat → Nat → Int32) (a1 : Int32) (a2 : Int32) : Option (Int32) := (if inb a2 4 = true then (mX11_leastSet_19 P I xf a1 (I ((P 12 0) + 2) (ix a2)) (-1 : Int32) (0 : Int32)) else none)
set_option maxHeartbeats 400000 in
set_option maxRecDepth 100000 in
theorem kX11_leastSet {E : xE} {B : Nat} {n : Nat} {K : Nat → Nat × Nat} {P : Nat → Nat → Nat} {I : Nat → Nat → Int32} {L : Nat → Nat → Int64}  {a1 : Int32} {a2 : Int32} {q : Int32} (d : Nat) (hd : 2 ≤ d) (G : GW K P)   (hm : mX11_leastSet P I a1 a2 = some q) : MX E B d 0 0 yX11_leastSet cX11_leastSet 8 (some .int) [.ref 1, .int a1, .int a2] (n, K, P, I, L) (some (.int q), (n, K, P, I, L)) := by
  refine MX_of (lv := [(0, .ref 1), (1, .int a1), (2, .int a2)]) (by decide +kernel) (Nat.le_of_ble_eq_true rfl) rfl ?_
  obtain ⟨d, rfl⟩ : ∃ d0, d = d0 + 1 := ⟨d - 1, by omega⟩
  unfold mX11_leastSet at hm
  refine X_aload_n 0 dX11_leastSet_0 rfl rfl rfl ?_
  refine X_getPe fl_X11_38 (g_K1 G) rfl (g_P1_6 G) dX11_leastSet_1 ?_
  refine X_getP fl_X11_116 (g_K12 G) rfl dX11_leastSet_4 ?_
  refine X_getPe fl_X11_198 (gl9_st G (g_K12 G)) rfl (gl6_P10 G (gl9_st G (g_K12 G))) dX11_leastSet_7 ?_
  refine X_iload_n 2 dX11_leastSet_10 rfl rfl ?_
  obtain ⟨g1, hm⟩ := og hm
  refine X_ialdJ (gl6_K2 G (gl9_st G (g_K12 G))) g1 rfl dX11_leastSet_11 ?_
  refine X_istore_n (lv' := [(3, .int (I ((P 12 0) + 2) (ix a2))), (0, .ref 1), (1, .int a1), (2, .int a2)]) dX11_leastSet_12 rfl (by decide) rfl ?_
  refine X_iconst (v := (-1 : Int32)) dX11_leastSet_13 (by decide) ?_
  refine X_istore (lv' := [(4, .int (-1 : Int32)), (3, .int (I ((P 12 0) + 2) (ix a2))), (0, .ref 1), (1, .int a1), (2, .int a2)]) dX11_leastSet_14 (by decide) rfl ?_
  refine X_iconst (v := (0 : Int32)) dX11_leastSet_16 (by decide) ?_
  refine X_istore (lv' := [(5, .int (0 : Int32)), (4, .int (-1 : Int32)), (3, .int (I ((P 12 0) + 2) (ix a2))), (0, .ref 1), (1, .int a1), (2, .int a2)]) dX11_leastSet_17 (by decide) rfl ?_
  refine X_lv [3, 4, 2, 1, 0] rfl (kX11_leastSet_19 _ hd G xf _ _ _ _  hm)
def mX11_least (P : Nat → Nat → Nat) (L : Nat → Nat → Int64) (I : Nat → Nat → Int32) (a1 : Int32) (a2 : Int32) (a3 : Int32) (a4 : Int32) : Option (Int32 × (Nat → Nat → Int32)) := (Option.bind (mX11_isPainter P I a1) (fun q1 => (if q1 = 0 then (some ((-1 : Int32), I)) else (Option.bind (mX11_isThing P I a2) (fun q4 => (if q4 = 0 then (some ((-1 : Int32), I)) else (Option.bind (mX11_isBare I a2) (fun q7 => (if q7 = 0 then (Option.bind (mX11_isWithin a3 (0 : Int32) (60 : Int32)) (fun q10 => (if q10 = 0 then (some ((-1 : Int32), I)) else (Option.bind (mX11_isWithin a4 (0 : Int32) (1 : Int32)) (fun q13 => (if q13 = 0 then (some ((-1 : Int32), I)) else (Option.bind (mX11_foreseeOwners P L I a1 a2 a3) (fun q16 => (Option.bind (mX11_leastSet P q16 a1 a2) (fun q18 => (if q18 = (-1 : Int32) then (some ((-2 : Int32), q16)) else (if a4 = 0 then (Option.bind (mJ6_bitCount_0f7a4 q18) (fun q22 => (some (q22, q16)))) else (some (q18, q16)))))))))))))) else (some ((-1 : Int32), I)))))))))))
set_option maxHeartbeats 400000 in
set_option maxRecDepth 100000 in
theorem kX11_least {E : xE} {B : Nat} {n : Nat} {K : Nat → Nat × Nat} {P : Nat → Nat → Nat} {I : Nat → Nat → Int32} {L : Nat → Nat → Int64}  {a1 : Int32} {a2 : Int32} {a3 : Int32} {a4 : Int32} {q : Int32 × (Nat → Nat → Int32)} (d : Nat) (hd : 5 ≤ d) (G : GW K P)   (hm : mX11_least P L I a1 a2 a3 a4 = some q) : MX E B d 0 0 yX11_least cX11_least 6 (some .int) [.ref 1, .int a1, .int a2, .int a3, .int a4] (n, K, P, I, L) (some (.int q.1), (n, K, P, q.2, L)) := by
  refine MX_of (lv := [(0, .ref 1), (1, .int a1), (2, .int a2), (3, .int a3), (4, .int a4)]) (by decide +kernel) (Nat.le_of_ble_eq_true rfl) rfl ?_
  obtain ⟨d, rfl⟩ : ∃ d0, d = d0 + 1 := ⟨d - 1, by omega⟩
  unfold mX11_least at hm
  refine X_aload_n 0 dX11_least_0 rfl rfl rfl ?_
  refine X_iload_n 1 dX11_least_1 rfl rfl ?_
  obtain ⟨q1, e2, hm⟩ := ob hm
  refine X_cV1 (ci := 10) (kX11_isPainter d (by omega) G e2) ml_X11_183 mi_X11_isPainter rfl cf_10 (g_K1 G) rfl rfl (Nat.le_refl _) ⟨Nat.le_refl _, Nat.le_refl _⟩ (Nat.le_of_ble_eq_true rfl) dX11_least_2 ?_
  refine X_if_eq (tgt := 24) dX11_least_5 (by decide) (fun c3 => ?_) (fun c3 => ?_)
  · replace hm := ip c3 hm
    refine X_iconst (v := (-1 : Int32)) dX11_least_24 (by decide) ?_
    replace hm := Option.some.inj hm
    subst hm
    exact X_iret dX11_least_25 rfl
  · replace hm := iq c3 hm
    refine X_aload_n 0 dX11_least_8 rfl rfl rfl ?_
    refine X_iload_n 2 dX11_least_9 rfl rfl ?_
    obtain ⟨q4, e5, hm⟩ := ob hm
    refine X_cV1 (ci := 10) (kX11_isThing d (by omega) G e5) ml_X11_192 mi_X11_isThing rfl cf_10 (g_K1 G) rfl rfl (Nat.le_refl _) ⟨Nat.le_refl _, Nat.le_refl _⟩ (Nat.le_of_ble_eq_true rfl) dX11_least_10 ?_
    refine X_if_eq (tgt := 24) dX11_least_13 (by decide) (fun c6 => ?_) (fun c6 => ?_)
    · replace hm := ip c6 hm
      refine X_iconst (v := (-1 : Int32)) dX11_least_24 (by decide) ?_
      replace hm := Option.some.inj hm
      subst hm
      exact X_iret dX11_least_25 rfl
    · replace hm := iq c6 hm
      refine X_aload_n 0 dX11_least_16 rfl rfl rfl ?_
      refine X_iload_n 2 dX11_least_17 rfl rfl ?_
      obtain ⟨q7, e8, hm⟩ := ob hm
      refine X_cV1 (ci := 10) (kX11_isBare d (by omega) G e8) ml_X11_208 mi_X11_isBare rfl cf_10 (g_K1 G) rfl rfl (Nat.le_refl _) ⟨Nat.le_refl _, Nat.le_refl _⟩ (Nat.le_of_ble_eq_true rfl) dX11_least_18 ?_
      refine X_if_eq (tgt := 26) dX11_least_21 (by decide) (fun c9 => ?_) (fun c9 => ?_)
      · replace hm := ip c9 hm
        refine X_iload_n 3 dX11_least_26 rfl rfl ?_
        refine X_iconst (v := (0 : Int32)) dX11_least_27 (by decide) ?_
        refine X_bipush (v := (60 : Int32)) dX11_least_28 (by decide) ?_
        obtain ⟨q10, e11, hm⟩ := ob hm
        refine X_cS1 (kX11_isWithin d (by omega) G e11) ml_X11_285 ms_X11_isWithin rfl rfl (Nat.le_refl _) ⟨Nat.le_refl _, Nat.le_refl _⟩ (Nat.le_of_ble_eq_true rfl) dX11_least_30 ?_
        refine X_if_eq (tgt := 46) dX11_least_33 (by decide) (fun c12 => ?_) (fun c12 => ?_)
        · replace hm := ip c12 hm
          refine X_iconst (v := (-1 : Int32)) dX11_least_46 (by decide) ?_
          replace hm := Option.some.inj hm
          subst hm
          exact X_iret dX11_least_47 rfl
        · replace hm := iq c12 hm
          refine X_iload 4 dX11_least_36 rfl ?_
          refine X_iconst (v := (0 : Int32)) dX11_least_38 (by decide) ?_
          refine X_iconst (v := (1 : Int32)) dX11_least_39 (by decide) ?_
          obtain ⟨q13, e14, hm⟩ := ob hm
          refine X_cS1 (kX11_isWithin d (by omega) G e14) ml_X11_285 ms_X11_isWithin rfl rfl (Nat.le_refl _) ⟨Nat.le_refl _, Nat.le_refl _⟩ (Nat.le_of_ble_eq_true rfl) dX11_least_40 ?_
          refine X_if_ne (tgt := 48) dX11_least_43 (by decide) (fun c15 => ?_) (fun c15 => ?_)
          · replace hm := iq c15 hm
            refine X_aload_n 0 dX11_least_48 rfl rfl rfl ?_
            refine X_iload_n 1 dX11_least_49 rfl rfl ?_
            refine X_iload_n 2 dX11_least_50 rfl rfl ?_
            refine X_iload_n 3 dX11_least_51 rfl rfl ?_
            obtain ⟨q16, e17, hm⟩ := ob hm
            refine X_cV0 (ci := 10) (kX11_foreseeOwners d (by omega) G e17) ml_X11_315 mi_X11_foreseeOwners rfl cf_10 (g_K1 G) rfl rfl (Nat.le_refl _) ⟨Nat.le_refl _, Nat.le_refl _⟩ (Nat.le_of_ble_eq_true rfl) dX11_least_52 ?_
            refine X_aload_n 0 dX11_least_55 rfl rfl rfl ?_
            refine X_iload_n 1 dX11_least_56 rfl rfl ?_
            refine X_iload_n 2 dX11_least_57 rfl rfl ?_
            obtain ⟨q18, e19, hm⟩ := ob hm
            refine X_cV1 (ci := 10) (kX11_leastSet d (by omega) G e19) ml_X11_319 mi_X11_leastSet rfl cf_10 (g_K1 G) rfl rfl (Nat.le_refl _) ⟨Nat.le_refl _, Nat.le_refl _⟩ (Nat.le_of_ble_eq_true rfl) dX11_least_58 ?_
            refine X_istore (lv' := [(5, .int q18), (0, .ref 1), (1, .int a1), (2, .int a2), (3, .int a3), (4, .int a4)]) dX11_least_61 (by decide) rfl ?_
            refine X_iload 0 dX11_least_63 rfl ?_
            refine X_iconst (v := (-1 : Int32)) dX11_least_65 (by decide) ?_
            refine X_icmp_ne (tgt := 72) dX11_least_66 (by decide) (fun c20 => ?_) (fun c20 => ?_)
            · replace hm := iq c20 hm
              refine X_iload 5 dX11_least_72 rfl ?_
              refine X_if_ne (tgt := 85) dX11_least_74 (by decide) (fun c21 => ?_) (fun c21 => ?_)
              · replace hm := iq c21 hm
                refine X_iload 0 dX11_least_85 rfl ?_
                replace hm := Option.some.inj hm
                subst hm
                exact X_iret dX11_least_87 rfl
              · replace hm := ip c21 hm
                refine X_iload 0 dX11_least_77 rfl ?_
                obtain ⟨q22, e23, hm⟩ := ob hm
                refine X_cS1 (kJ6_bitCount_0f7a4 d (by omega) G e23) ml_X11_323 ms_J6_bitCount_0f7a4 rfl rfl (Nat.le_refl _) ⟨Nat.le_refl _, Nat.le_refl _⟩ (Nat.le_of_ble_eq_true rfl) dX11_least_79 ?_
                refine X_goto (tgt := 87) dX11_least_82 (by decide) ?_
                replace hm := Option.some.inj hm
                subst hm
                exact X_iret dX11_least_87 rfl
            · replace hm := ip c20 hm
              refine X_bipush (v := (-2 : Int32)) dX11_least_69 (by decide) ?_
              replace hm := Option.some.inj hm
              subst hm
              exact X_iret dX11_least_71 rfl
          · replace hm := ip c15 hm
            refine X_iconst (v := (-1 : Int32)) dX11_least_46 (by decide) ?_
            replace hm := Option.some.inj hm
            subst hm
            exact X_iret dX11_least_47 rfl
      · replace hm := iq c9 hm
        refine X_iconst (v := (-1 : Int32)) dX11_least_24 (by decide) ?_
        replace hm := Option.some.inj hm
        subst hm
        exact X_iret dX11_least_25 rfl
def mX11_fewest (P : Nat → Nat → Nat) (L : Nat → Nat → Int64) (I : Nat → Nat → Int32) (a1 : Int32) (a2 : Int32) (a3 : Int32) : Option (Int32 × (Nat → Nat → Int32)) := (Option.bind (mX11_isPainter P I a1) (fun q1 => (if q1 = 0 then (some ((-1 : Int32), I)) else (Option.bind (mX11_isThing P I a2) (fun q4 => (if q4 = 0 then (some ((-1 : Int32), I)) else (Option.bind (mX11_isWithin a3 (0 : Int32) (6 : Int32)) (fun q7 => (if q7 = 0 then (some ((-1 : Int32), I)) else (Option.bind (mX11_isBare I a2) (fun q10 => (if q10 = 0 then (if inb a2 4 = true then (if a3 ≤ (I ((P 12 0) + 2) (ix a2)) then (Option.bind (mX5_find L I (P 12 0) 24 a1 a2) (fun q15 => (if q15.1 = 0 then (some ((-2 : Int32), q15.2)) else (if a3 = 0 then (some ((q15.2 109 4), q15.2)) else (if inb (a3 - (1 : Int32)) 6 = true then (some ((q15.2 119 (ix (a3 - (1 : Int32)))), q15.2)) else none))))) else (some ((-2 : Int32), I))) else none) else (some ((-2 : Int32), I))))))))))))))
set_option maxHeartbeats 400000 in
set_option maxRecDepth 100000 in
theorem kX11_fewest {E : xE} {B : Nat} {n : Nat} {K : Nat → Nat × Nat} {P : Nat → Nat → Nat} {I : Nat → Nat → Int32} {L : Nat → Nat → Int64}  {a1 : Int32} {a2 : Int32} {a3 : Int32} {q : Int32 × (Nat → Nat → Int32)} (d : Nat) (hd : 14 ≤ d) (G : GW K P)   (hm : mX11_fewest P L I a1 a2 a3 = some q) : MX E B d 0 0 yX11_fewest cX11_fewest 4 (some .int) [.ref 1, .int a1, .int a2, .int a3] (n, K, P, I, L) (some (.int q.1), (n, K, P, q.2, L)) := by
  refine MX_of (lv := [(0, .ref 1), (1, .int a1), (2, .int a2), (3, .int a3)]) (by decide +kernel) (Nat.le_of_ble_eq_true rfl) rfl ?_
  obtain ⟨d, rfl⟩ : ∃ d0, d = d0 + 1 := ⟨d - 1, by omega⟩
  unfold mX11_fewest at hm
  refine X_aload_n 0 dX11_fewest_0 rfl rfl rfl ?_
  refine X_iload_n 1 dX11_fewest_1 rfl rfl ?_
  obtain ⟨q1, e2, hm⟩ := ob hm
  refine X_cV1 (ci := 10) (kX11_isPainter d (by omega) G e2) ml_X11_183 mi_X11_isPainter rfl cf_10 (g_K1 G) rfl rfl (Nat.le_refl _) ⟨Nat.le_refl _, Nat.le_refl _⟩ (Nat.le_of_ble_eq_true rfl) dX11_fewest_2 ?_
  refine X_if_eq (tgt := 26) dX11_fewest_5 (by decide) (fun c3 => ?_) (fun c3 => ?_)
  · replace hm := ip c3 hm
    refine X_iconst (v := (-1 : Int32)) dX11_fewest_26 (by decide) ?_
    replace hm := Option.some.inj hm
    subst hm
    exact X_iret dX11_fewest_27 rfl
  · replace hm := iq c3 hm
    refine X_aload_n 0 dX11_fewest_8 rfl rfl rfl ?_
    refine X_iload_n 2 dX11_fewest_9 rfl rfl ?_
    obtain ⟨q4, e5, hm⟩ := ob hm
    refine X_cV1 (ci := 10) (kX11_isThing d (by omega) G e5) ml_X11_192 mi_X11_isThing rfl cf_10 (g_K1 G) rfl rfl (Nat.le_refl _) ⟨Nat.le_refl _, Nat.le_refl _⟩ (Nat.le_of_ble_eq_true rfl) dX11_fewest_10 ?_
    refine X_if_eq (tgt := 26) dX11_fewest_13 (by decide) (fun c6 => ?_) (fun c6 => ?_)
    · replace hm := ip c6 hm
      refine X_iconst (v := (-1 : Int32)) dX11_fewest_26 (by decide) ?_
      replace hm := Option.some.inj hm
      subst hm
      exact X_iret dX11_fewest_27 rfl
    · replace hm := iq c6 hm
      refine X_iload_n 3 dX11_fewest_16 rfl rfl ?_
      refine X_iconst (v := (0 : Int32)) dX11_fewest_17 (by decide) ?_
      refine X_bipush (v := (6 : Int32)) dX11_fewest_18 (by decide) ?_
      obtain ⟨q7, e8, hm⟩ := ob hm
      refine X_cS1 (kX11_isWithin d (by omega) G e8) ml_X11_285 ms_X11_isWithin rfl rfl (Nat.le_refl _) ⟨Nat.le_refl _, Nat.le_refl _⟩ (Nat.le_of_ble_eq_true rfl) dX11_fewest_20 ?_
      refine X_if_ne (tgt := 28) dX11_fewest_23 (by decide) (fun c9 => ?_) (fun c9 => ?_)
      · replace hm := iq c9 hm
        refine X_aload_n 0 dX11_fewest_28 rfl rfl rfl ?_
        refine X_iload_n 2 dX11_fewest_29 rfl rfl ?_
        obtain ⟨q10, e11, hm⟩ := ob hm
        refine X_cV1 (ci := 10) (kX11_isBare d (by omega) G e11) ml_X11_208 mi_X11_isBare rfl cf_10 (g_K1 G) rfl rfl (Nat.le_refl _) ⟨Nat.le_refl _, Nat.le_refl _⟩ (Nat.le_of_ble_eq_true rfl) dX11_fewest_30 ?_
        refine X_if_ne (tgt := 52) dX11_fewest_33 (by decide) (fun c12 => ?_) (fun c12 => ?_)
        · replace hm := iq c12 hm
          refine X_bipush (v := (-2 : Int32)) dX11_fewest_52 (by decide) ?_
          replace hm := Option.some.inj hm
          subst hm
          exact X_iret dX11_fewest_54 rfl
        · replace hm := ip c12 hm
          refine X_iload_n 3 dX11_fewest_36 rfl rfl ?_
          refine X_aload_n 0 dX11_fewest_37 rfl rfl rfl ?_
          refine X_getPe fl_X11_38 (g_K1 G) rfl (g_P1_6 G) dX11_fewest_38 ?_
          refine X_getP fl_X11_116 (g_K12 G) rfl dX11_fewest_41 ?_
          refine X_getPe fl_X11_198 (gl9_st G (g_K12 G)) rfl (gl6_P10 G (gl9_st G (g_K12 G))) dX11_fewest_44 ?_
          refine X_iload_n 2 dX11_fewest_47 rfl rfl ?_
          obtain ⟨g13, hm⟩ := og hm
          refine X_ialdJ (gl6_K2 G (gl9_st G (g_K12 G))) g13 rfl dX11_fewest_48 ?_
          refine X_icmp_le (tgt := 55) dX11_fewest_49 (by decide) (fun c14 => ?_) (fun c14 => ?_)
          · replace hm := ip c14 hm
            refine X_aload_n 0 dX11_fewest_55 rfl rfl rfl ?_
            refine X_getPe fl_X11_70 (g_K1 G) rfl (g_P1_11 G) dX11_fewest_56 ?_
            refine X_aload_n 0 dX11_fewest_59 rfl rfl rfl ?_
            refine X_getPe fl_X11_38 (g_K1 G) rfl (g_P1_6 G) dX11_fewest_60 ?_
            refine X_getP fl_X11_116 (g_K12 G) rfl dX11_fewest_63 ?_
            refine X_aload_n 0 dX11_fewest_66 rfl rfl rfl ?_
            refine X_getPe fl_X11_38 (g_K1 G) rfl (g_P1_6 G) dX11_fewest_67 ?_
            refine X_getPe fl_X11_142 (g_K12 G) rfl (g_P12_1 G) dX11_fewest_70 ?_
            refine X_iload_n 1 dX11_fewest_73 rfl rfl ?_
            refine X_iload_n 2 dX11_fewest_74 rfl rfl ?_
            obtain ⟨q15, e16, hm⟩ := ob hm
            refine X_cV1 (ci := 4) (kX5_find d (by omega) G (gl9_st G (g_K12 G)) (g_K24 G) e16) ml_X11_338 mi_X5_find rfl cf_4 (g_K109 G) rfl rfl (Nat.le_refl _) ⟨Nat.le_refl _, Nat.le_refl _⟩ (Nat.le_of_ble_eq_true rfl) dX11_fewest_75 ?_
            refine X_if_ne (tgt := 84) dX11_fewest_78 (by decide) (fun c17 => ?_) (fun c17 => ?_)
            · replace hm := iq c17 hm
              refine X_iload_n 3 dX11_fewest_84 rfl rfl ?_
              refine X_if_ne (tgt := 98) dX11_fewest_85 (by decide) (fun c18 => ?_) (fun c18 => ?_)
              · replace hm := iq c18 hm
                refine X_aload_n 0 dX11_fewest_98 rfl rfl rfl ?_
                refine X_getPe fl_X11_70 (g_K1 G) rfl (g_P1_11 G) dX11_fewest_99 ?_
                refine X_getPe fl_X11_345 (g_K109 G) rfl (g_P109_3 G) dX11_fewest_102 ?_
                refine X_iload_n 3 dX11_fewest_105 rfl rfl ?_
                refine X_iconst (v := (1 : Int32)) dX11_fewest_106 (by decide) ?_
                refine X_isub dX11_fewest_107 ?_
                obtain ⟨g19, hm⟩ := og hm
                refine X_ialdJ (g_K119 G) g19 rfl dX11_fewest_108 ?_
                replace hm := Option.some.inj hm
                subst hm
                exact X_iret dX11_fewest_109 rfl
              · replace hm := ip c18 hm
                refine X_aload_n 0 dX11_fewest_88 rfl rfl rfl ?_
                refine X_getPe fl_X11_70 (g_K1 G) rfl (g_P1_11 G) dX11_fewest_89 ?_
                refine X_getI fl_X11_342 (g_K109 G) rfl dX11_fewest_92 ?_
                refine X_goto (tgt := 109) dX11_fewest_95 (by decide) ?_
                replace hm := Option.some.inj hm
                subst hm
                exact X_iret dX11_fewest_109 rfl
            · replace hm := ip c17 hm
              refine X_bipush (v := (-2 : Int32)) dX11_fewest_81 (by decide) ?_
              replace hm := Option.some.inj hm
              subst hm
              exact X_iret dX11_fewest_83 rfl
          · replace hm := iq c14 hm
            refine X_bipush (v := (-2 : Int32)) dX11_fewest_52 (by decide) ?_
            replace hm := Option.some.inj hm
            subst hm
            exact X_iret dX11_fewest_54 rfl
      · replace hm := ip c9 hm
        refine X_iconst (v := (-1 : Int32)) dX11_fewest_26 (by decide) ?_
        replace hm := Option.some.inj hm
        subst hm
        exact X_iret dX11_fewest_27 rfl
def mX11_game (P : Nat → Nat → Nat) (I : Nat → Nat → Int32) (L : Nat → Nat → Int64) (a1 : Int32) (a2 : Int32) (a3 : Int32) (a4 : Int32) (a5 : Int32) : Option (Int32 × (Nat → Nat → Int32) × (Nat → Nat → Int64)) := (Option.bind (mX11_isPainter P I a1) (fun q1 => (if q1 = 0 then (some ((-100 : Int32), I, L)) else (Option.bind (mX11_isPainter P I a2) (fun q4 => (if q4 = 0 then (some ((-100 : Int32), I, L)) else (if a1 = a2 then (some ((-100 : Int32), I, L)) else (Option.bind (mX11_isThing P I a3) (fun q8 => (if q8 = 0 then (some ((-100 : Int32), I, L)) else (Option.bind (mX11_isBare I a3) (fun q11 => (if q11 = 0 then (Option.bind (mX11_isWithin a4 (1 : Int32) (4 : Int32)) (fun q14 => (if q14 = 0 then (some ((-100 : Int32), I, L)) else (Option.bind (mX11_isWithin a5 (0 : Int32) (1 : Int32)) (fun q17 => (if q17 = 0 then (some ((-100 : Int32), I, L)) else (Option.bind (mX1_lay I L (P 12 0) 24 a3) (fun q20 => (Option.bind (mX1_seat q20.1 a1 a2 a4) (fun q22 => (Option.bind (zX1_play 10 q22 q20.2 (P 12 0) (0 : Int32)) (fun q24 => (if a5 = 0 then (some (q24.1, q24.2.1, q24.2.2)) else (if (q24.2.1 102 6) = (-1 : Int32) then (some ((-1 : Int32), q24.2.1, q24.2.2)) else (if inb a3 4 = true then (some (((q24.2.1 ((P 12 0) + 1) (ix a3)) + (q24.2.1 102 6)), q24.2.1, q24.2.2)) else none))))))))))))))) else (some ((-100 : Int32), I, L)))))))))))))))
set_option maxHeartbeats 400000 in
set_option maxRecDepth 100000 in
theorem kX11_game {E : xE} {B : Nat} {n : Nat} {K : Nat → Nat × Nat} {P : Nat → Nat → Nat} {I : Nat → Nat → Int32} {L : Nat → Nat → Int64}  {a1 : Int32} {a2 : Int32} {a3 : Int32} {a4 : Int32} {a5 : Int32} {q : Int32 × (Nat → Nat → Int32) × (Nat → Nat → Int64)} (d : Nat) (hd : 16 ≤ d) (G : GW K P)   (hm : mX11_game P I L a1 a2 a3 a4 a5 = some q) : MX E B d 0 0 yX11_game cX11_game 7 (some .int) [.ref 1, .int a1, .int a2, .int a3, .int a4, .int a5] (n, K, P, I, L) (some (.int q.1), (n, K, P, q.2.1, q.2.2)) := by
  refine MX_of (lv := [(0, .ref 1), (1, .int a1), (2, .int a2), (3, .int a3), (4, .int a4), (5, .int a5)]) (by decide +kernel) (Nat.le_of_ble_eq_true rfl) rfl ?_
  obtain ⟨d, rfl⟩ : ∃ d0, d = d0 + 1 := ⟨d - 1, by omega⟩
  unfold mX11_game at hm
  refine X_aload_n 0 dX11_game_0 rfl rfl rfl ?_
  refine X_iload_n 1 dX11_game_1 rfl rfl ?_
  obtain ⟨q1, e2, hm⟩ := ob hm
  refine X_cV1 (ci := 10) (kX11_isPainter d (by omega) G e2) ml_X11_183 mi_X11_isPainter rfl cf_10 (g_K1 G) rfl rfl (Nat.le_refl _) ⟨Nat.le_refl _, Nat.le_refl _⟩ (Nat.le_of_ble_eq_true rfl) dX11_game_2 ?_
  refine X_if_eq (tgt := 37) dX11_game_5 (by decide) (fun c3 => ?_) (fun c3 => ?_)
  · replace hm := ip c3 hm
    refine X_bipush (v := (-100 : Int32)) dX11_game_37 (by decide) ?_
    replace hm := Option.some.inj hm
    subst hm
    exact X_iret dX11_game_39 rfl
  · replace hm := iq c3 hm
    refine X_aload_n 0 dX11_game_8 rfl rfl rfl ?_
    refine X_iload_n 2 dX11_game_9 rfl rfl ?_
    obtain ⟨q4, e5, hm⟩ := ob hm
    refine X_cV1 (ci := 10) (kX11_isPainter d (by omega) G e5) ml_X11_183 mi_X11_isPainter rfl cf_10 (g_K1 G) rfl rfl (Nat.le_refl _) ⟨Nat.le_refl _, Nat.le_refl _⟩ (Nat.le_of_ble_eq_true rfl) dX11_game_10 ?_
    refine X_if_eq (tgt := 37) dX11_game_13 (by decide) (fun c6 => ?_) (fun c6 => ?_)
    · replace hm := ip c6 hm
      refine X_bipush (v := (-100 : Int32)) dX11_game_37 (by decide) ?_
      replace hm := Option.some.inj hm
      subst hm
      exact X_iret dX11_game_39 rfl
    · replace hm := iq c6 hm
      refine X_iload_n 1 dX11_game_16 rfl rfl ?_
      refine X_iload_n 2 dX11_game_17 rfl rfl ?_
      refine X_icmp_eq (tgt := 37) dX11_game_18 (by decide) (fun c7 => ?_) (fun c7 => ?_)
      · replace hm := ip c7 hm
        refine X_bipush (v := (-100 : Int32)) dX11_game_37 (by decide) ?_
        replace hm := Option.some.inj hm
        subst hm
        exact X_iret dX11_game_39 rfl
      · replace hm := iq c7 hm
        refine X_aload_n 0 dX11_game_21 rfl rfl rfl ?_
        refine X_iload_n 3 dX11_game_22 rfl rfl ?_
        obtain ⟨q8, e9, hm⟩ := ob hm
        refine X_cV1 (ci := 10) (kX11_isThing d (by omega) G e9) ml_X11_192 mi_X11_isThing rfl cf_10 (g_K1 G) rfl rfl (Nat.le_refl _) ⟨Nat.le_refl _, Nat.le_refl _⟩ (Nat.le_of_ble_eq_true rfl) dX11_game_23 ?_
        refine X_if_eq (tgt := 37) dX11_game_26 (by decide) (fun c10 => ?_) (fun c10 => ?_)
        · replace hm := ip c10 hm
          refine X_bipush (v := (-100 : Int32)) dX11_game_37 (by decide) ?_
          replace hm := Option.some.inj hm
          subst hm
          exact X_iret dX11_game_39 rfl
        · replace hm := iq c10 hm
          refine X_aload_n 0 dX11_game_29 rfl rfl rfl ?_
          refine X_iload_n 3 dX11_game_30 rfl rfl ?_
          obtain ⟨q11, e12, hm⟩ := ob hm
          refine X_cV1 (ci := 10) (kX11_isBare d (by omega) G e12) ml_X11_208 mi_X11_isBare rfl cf_10 (g_K1 G) rfl rfl (Nat.le_refl _) ⟨Nat.le_refl _, Nat.le_refl _⟩ (Nat.le_of_ble_eq_true rfl) dX11_game_31 ?_
          refine X_if_eq (tgt := 40) dX11_game_34 (by decide) (fun c13 => ?_) (fun c13 => ?_)
          · replace hm := ip c13 hm
            refine X_iload 4 dX11_game_40 rfl ?_
            refine X_iconst (v := (1 : Int32)) dX11_game_42 (by decide) ?_
            refine X_iconst (v := (4 : Int32)) dX11_game_43 (by decide) ?_
            obtain ⟨q14, e15, hm⟩ := ob hm
            refine X_cS1 (kX11_isWithin d (by omega) G e15) ml_X11_285 ms_X11_isWithin rfl rfl (Nat.le_refl _) ⟨Nat.le_refl _, Nat.le_refl _⟩ (Nat.le_of_ble_eq_true rfl) dX11_game_44 ?_
            refine X_if_eq (tgt := 60) dX11_game_47 (by decide) (fun c16 => ?_) (fun c16 => ?_)
            · replace hm := ip c16 hm
              refine X_bipush (v := (-100 : Int32)) dX11_game_60 (by decide) ?_
              replace hm := Option.some.inj hm
              subst hm
              exact X_iret dX11_game_62 rfl
            · replace hm := iq c16 hm
              refine X_iload 5 dX11_game_50 rfl ?_
              refine X_iconst (v := (0 : Int32)) dX11_game_52 (by decide) ?_
              refine X_iconst (v := (1 : Int32)) dX11_game_53 (by decide) ?_
              obtain ⟨q17, e18, hm⟩ := ob hm
              refine X_cS1 (kX11_isWithin d (by omega) G e18) ml_X11_285 ms_X11_isWithin rfl rfl (Nat.le_refl _) ⟨Nat.le_refl _, Nat.le_refl _⟩ (Nat.le_of_ble_eq_true rfl) dX11_game_54 ?_
              refine X_if_ne (tgt := 63) dX11_game_57 (by decide) (fun c19 => ?_) (fun c19 => ?_)
              · replace hm := iq c19 hm
                refine X_aload_n 0 dX11_game_63 rfl rfl rfl ?_
                refine X_getPe fl_X11_63 (g_K1 G) rfl (g_P1_10 G) dX11_game_64 ?_
                refine X_aload_n 0 dX11_game_67 rfl rfl rfl ?_
                refine X_getPe fl_X11_38 (g_K1 G) rfl (g_P1_6 G) dX11_game_68 ?_
                refine X_getP fl_X11_116 (g_K12 G) rfl dX11_game_71 ?_
                refine X_aload_n 0 dX11_game_74 rfl rfl rfl ?_
                refine X_getPe fl_X11_38 (g_K1 G) rfl (g_P1_6 G) dX11_game_75 ?_
                refine X_getPe fl_X11_142 (g_K12 G) rfl (g_P12_1 G) dX11_game_78 ?_
                refine X_iload_n 3 dX11_game_81 rfl rfl ?_
                obtain ⟨q20, e21, hm⟩ := ob hm
                refine X_cV0 (ci := 0) (kX1_lay d (by omega) G (gl9_st G (g_K12 G)) (g_K24 G) e21) ml_X11_348 mi_X1_lay rfl cf_0 (g_K102 G) rfl rfl (Nat.le_refl _) ⟨Nat.le_refl _, Nat.le_refl _⟩ (Nat.le_of_ble_eq_true rfl) dX11_game_82 ?_
                refine X_aload_n 0 dX11_game_85 rfl rfl rfl ?_
                refine X_getPe fl_X11_63 (g_K1 G) rfl (g_P1_10 G) dX11_game_86 ?_
                refine X_iload_n 1 dX11_game_89 rfl rfl ?_
                refine X_iload_n 2 dX11_game_90 rfl rfl ?_
                refine X_iload 4 dX11_game_91 rfl ?_
                obtain ⟨q22, e23, hm⟩ := ob hm
                refine X_cV0 (ci := 0) (kX1_seat d (by omega) G e23) ml_X11_352 mi_X1_seat rfl cf_0 (g_K102 G) rfl rfl (Nat.le_refl _) ⟨Nat.le_refl _, Nat.le_refl _⟩ (Nat.le_of_ble_eq_true rfl) dX11_game_93 ?_
                refine X_aload_n 0 dX11_game_96 rfl rfl rfl ?_
                refine X_getPe fl_X11_63 (g_K1 G) rfl (g_P1_10 G) dX11_game_97 ?_
                refine X_aload_n 0 dX11_game_100 rfl rfl rfl ?_
                refine X_getPe fl_X11_38 (g_K1 G) rfl (g_P1_6 G) dX11_game_101 ?_
                refine X_getP fl_X11_116 (g_K12 G) rfl dX11_game_104 ?_
                refine X_iconst (v := (0 : Int32)) dX11_game_107 (by decide) ?_
                obtain ⟨q24, e25, hm⟩ := ob hm
                refine X_cV1 (ci := 0) (zkX1_play d (by omega) G (gl9_st G (g_K12 G)) e25) ml_X11_355 mi_X1_play rfl cf_0 (g_K102 G) rfl rfl (Nat.le_refl _) ⟨Nat.le_refl _, Nat.le_refl _⟩ (Nat.le_of_ble_eq_true rfl) dX11_game_108 ?_
                refine X_istore (lv' := [(6, .int q24.1), (0, .ref 1), (1, .int a1), (2, .int a2), (3, .int a3), (4, .int a4), (5, .int a5)]) dX11_game_111 (by decide) rfl ?_
                refine X_iload 6 dX11_game_113 rfl ?_
                refine X_if_ne (tgt := 121) dX11_game_115 (by decide) (fun c26 => ?_) (fun c26 => ?_)
                · replace hm := iq c26 hm
                  refine X_aload_n 1 dX11_game_121 rfl rfl rfl ?_
                  refine X_getPe fl_X11_63 (g_K1 G) rfl (g_P1_10 G) dX11_game_122 ?_
                  refine X_getI fl_X11_359 (g_K102 G) rfl dX11_game_125 ?_
                  refine X_iconst (v := (-1 : Int32)) dX11_game_128 (by decide) ?_
                  refine X_icmp_ne (tgt := 136) dX11_game_129 (by decide) (fun c27 => ?_) (fun c27 => ?_)
                  · replace hm := iq c27 hm
                    refine X_aload_n 1 dX11_game_136 rfl rfl rfl ?_
                    refine X_getPe fl_X11_38 (g_K1 G) rfl (g_P1_6 G) dX11_game_137 ?_
                    refine X_getP fl_X11_116 (g_K12 G) rfl dX11_game_140 ?_
                    refine X_getPe fl_X11_195 (gl9_st G (g_K12 G)) rfl (gl6_P9 G (gl9_st G (g_K12 G))) dX11_game_143 ?_
                    refine X_iload_n 4 dX11_game_146 rfl rfl ?_
                    obtain ⟨g28, hm⟩ := og hm
                    refine X_ialdJ (gl6_K1 G (gl9_st G (g_K12 G))) g28 rfl dX11_game_147 ?_
                    refine X_aload_n 1 dX11_game_148 rfl rfl rfl ?_
                    refine X_getPe fl_X11_63 (g_K1 G) rfl (g_P1_10 G) dX11_game_149 ?_
                    refine X_getI fl_X11_359 (g_K102 G) rfl dX11_game_152 ?_
                    refine X_iadd dX11_game_155 ?_
                    replace hm := Option.some.inj hm
                    subst hm
                    exact X_iret dX11_game_156 rfl
                  · replace hm := ip c27 hm
                    refine X_iconst (v := (-1 : Int32)) dX11_game_132 (by decide) ?_
                    refine X_goto (tgt := 156) dX11_game_133 (by decide) ?_
                    replace hm := Option.some.inj hm
                    subst hm
                    exact X_iret dX11_game_156 rfl
                · replace hm := ip c26 hm
                  refine X_iload 0 dX11_game_118 rfl ?_
                  replace hm := Option.some.inj hm
                  subst hm
                  exact X_iret dX11_game_120 rfl
              · replace hm := ip c19 hm
                refine X_bipush (v := (-100 : Int32)) dX11_game_60 (by decide) ?_
                replace hm := Option.some.inj hm
                subst hm
                exact X_iret dX11_game_62 rfl
          · replace hm := iq c13 hm
            refine X_bipush (v := (-100 : Int32)) dX11_game_37 (by decide) ?_
            replace hm := Option.some.inj hm
            subst hm
            exact X_iret dX11_game_39 rfl

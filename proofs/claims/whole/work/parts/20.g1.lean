def mX2_choose_33 (K : Nat → Nat × Nat) (I : Nat → Nat → Int32)  : Nat → (Nat → Nat → Int64) → Nat → Nat → Nat → Int32 → Int32 → Int64 → Int32 → Option (Int32 × (Nat → Nat → Int64))
  | 0, _, _, _, _, _, _, _, _ => none
  | f + 1, L, a1, a2, a3, a4, a5, a6, a8 => (if (I a2 6) ≤ a8 then (some (a5, L)) else (if inb a8 16 = true then (Option.bind (mX6_isBare I a3 (I (a2 + 4) (ix a8))) (fun q4 => (if q4 = 0 then (Option.bind (mX2_setWords I L a2 a3 a4 a8) (fun q7 => (Option.bind (mX3_valueFor K I q7 a1 96 13 97 60) (fun q9 => (if (lg_cmp q9.1 a6) ≤ 0 then (mX2_choose_33 K I f q9.2 a1 a2 a3 a4 a5 a6 (a8 + 1)) else (mX2_choose_33 K I f q9.2 a1 a2 a3 a4 a8 q9.1 (a8 + 1))))))) else (mX2_choose_33 K I f L a1 a2 a3 a4 a5 a6 (a8 + 1))))) else none))
set_option maxHeartbeats 400000 in
set_option maxRecDepth 100000 in
theorem kX2_choose_33 {E : xE} {B : Nat} {n : Nat} {K : Nat → Nat × Nat} {P : Nat → Nat → Nat} {I : Nat → Nat → Int32}   {q : Int32 × (Nat → Nat → Int64)} (d : Nat) (hd : 3 ≤ d) (G : GW K P)   : ∀ (f : Nat) (L : Nat → Nat → Int64) (a1 : Nat) (a2 : Nat) (a3 : Nat) (a4 : Int32) (a5 : Int32) (a6 : Int64) (a8 : Int32), K a1 = (2, 0) → K a2 = (6, 0) → K a3 = (5, 0) → mX2_choose_33 K I f L a1 a2 a3 a4 a5 a6 a8 = some q → X E B d 0 0 yX2_choose cX2_choose 11 (some .int) (some (.int q.1), (n, K, P, I, q.2)) 33 [(0, .ref 95), (1, .ref a1), (2, .ref a2), (3, .ref a3), (4, .int a4), (5, .int a5), (6, .long a6), (8, .int a8)] [] 0 0 (n, K, P, I, L) := by
  obtain ⟨d, rfl⟩ : ∃ d0, d = d0 + 1 := ⟨d - 1, by omega⟩
  intro f
  induction f with
  | zero => intro _ _ _ _ _ _ _ _ _ _ _ hm; exact nomatch (show (none : Option (Int32 × (Nat → Nat → Int64))) = some q from hm)
  | succ f ih =>
    intro L a1 a2 a3 a4 a5 a6 a8 h1 h2 h3 hm
    rw [mX2_choose_33] at hm
    refine X_iload 7 dX2_choose_33 rfl ?_
    refine X_aload_n 2 dX2_choose_35 rfl rfl rfl ?_
    refine X_getI fl_X2_63 h2 rfl dX2_choose_36 ?_
    refine X_icmp_ge (tgt := 102) dX2_choose_39 (by decide) (fun c2 => ?_) (fun c2 => ?_)
    · replace hm := ip c2 hm
      refine X_iload 5 dX2_choose_102 rfl ?_
      replace hm := Option.some.inj hm
      subst hm
      exact X_iret dX2_choose_104 rfl
    · replace hm := iq c2 hm
      refine X_aload_n 3 dX2_choose_42 rfl rfl rfl ?_
      refine X_aload_n 2 dX2_choose_43 rfl rfl rfl ?_
      refine X_getPe fl_X2_141 h2 rfl (gl6_P12 G h2) dX2_choose_44 ?_
      refine X_iload 7 dX2_choose_47 rfl ?_
      obtain ⟨g3, hm⟩ := og hm
      refine X_ialdJ (gl6_K4 G h2) g3 rfl dX2_choose_49 ?_
      obtain ⟨q4, e5, hm⟩ := ob hm
      refine X_cV1 (ci := 5) (kX6_isBare d (by omega) G h3 e5) ml_X2_154 mi_X6_isBare rfl cf_5 h3 rfl rfl (Nat.le_refl _) ⟨Nat.le_refl _, Nat.le_refl _⟩ (Nat.le_of_ble_eq_true rfl) dX2_choose_50 ?_
      refine X_if_ne (tgt := 96) dX2_choose_53 (by decide) (fun c6 => ?_) (fun c6 => ?_)
      · replace hm := iq c6 hm
        refine X_iinc (lv' := [(8, .int (a8 + 1)), (0, .ref 95), (1, .ref a1), (2, .ref a2), (3, .ref a3), (4, .int a4), (5, .int a5), (6, .long a6)]) 7 dX2_choose_96 rfl rfl (by decide) rfl ?_
        refine X_goto (tgt := 33) dX2_choose_99 (by decide) ?_
        exact X_lv [1, 2, 3, 4, 5, 6, 7, 0] rfl (ih _ _ _ _ _ _ _ _ h1 h2 h3 hm)
      · replace hm := ip c6 hm
        refine X_aload_n 0 dX2_choose_56 rfl rfl rfl ?_
        refine X_aload_n 2 dX2_choose_57 rfl rfl rfl ?_
        refine X_aload_n 3 dX2_choose_58 rfl rfl rfl ?_
        refine X_iload 4 dX2_choose_59 rfl ?_
        refine X_iload 7 dX2_choose_61 rfl ?_
        obtain ⟨q7, e8, hm⟩ := ob hm
        refine X_cV0 (ci := 1) (kX2_setWords d (by omega) G h2 h3 e8) ml_X2_157 mi_X2_setWords rfl cf_1 (g_K95 G) rfl rfl (Nat.le_refl _) ⟨Nat.le_refl _, Nat.le_refl _⟩ (Nat.le_of_ble_eq_true rfl) dX2_choose_63 ?_
        refine X_aload_n 1 dX2_choose_66 rfl rfl rfl ?_
        refine X_aload_n 0 dX2_choose_67 rfl rfl rfl ?_
        refine X_getPe fl_X2_11 (g_K95 G) rfl (g_P95_0 G) dX2_choose_68 ?_
        refine X_aload_n 0 dX2_choose_71 rfl rfl rfl ?_
        refine X_getPe fl_X2_19 (g_K95 G) rfl (g_P95_1 G) dX2_choose_72 ?_
        obtain ⟨q9, e10, hm⟩ := ob hm
        refine X_cV1 (ci := 2) (kX3_valueFor d (by omega) G h1 (g_K96 G) (g_K97 G) e10) ml_X2_161 mi_X3_valueFor rfl cf_2 h1 rfl rfl (Nat.le_refl _) ⟨Nat.le_refl _, Nat.le_refl _⟩ (Nat.le_of_ble_eq_true rfl) dX2_choose_75 ?_
        refine X_lstore (lv' := [(9, .long q9.1), (0, .ref 95), (1, .ref a1), (2, .ref a2), (3, .ref a3), (4, .int a4), (5, .int a5), (6, .long a6), (8, .int a8)]) dX2_choose_78 (by decide) rfl ?_
        refine X_lload 0 dX2_choose_80 rfl ?_
        refine X_lload 7 dX2_choose_82 rfl ?_
        refine X_lcmp dX2_choose_84 ?_
        refine X_if_le (tgt := 96) dX2_choose_85 (by decide) (fun c11 => ?_) (fun c11 => ?_)
        · replace hm := ip c11 hm
          refine X_iinc (lv' := [(8, .int (a8 + 1)), (9, .long q9.1), (0, .ref 95), (1, .ref a1), (2, .ref a2), (3, .ref a3), (4, .int a4), (5, .int a5), (6, .long a6)]) 8 dX2_choose_96 rfl rfl (by decide) rfl ?_
          refine X_goto (tgt := 33) dX2_choose_99 (by decide) ?_
          exact X_lv [2, 3, 4, 5, 6, 7, 8, 0] rfl (ih _ _ _ _ _ _ _ _ h1 h2 h3 hm)
        · replace hm := iq c11 hm
          refine X_lload 0 dX2_choose_88 rfl ?_
          refine X_lstore (lv' := [(6, .long q9.1), (9, .long q9.1), (0, .ref 95), (1, .ref a1), (2, .ref a2), (3, .ref a3), (4, .int a4), (5, .int a5), (8, .int a8)]) dX2_choose_90 (by decide) rfl ?_
          refine X_iload 8 dX2_choose_92 rfl ?_
          refine X_istore (lv' := [(5, .int a8), (6, .long q9.1), (9, .long q9.1), (0, .ref 95), (1, .ref a1), (2, .ref a2), (3, .ref a3), (4, .int a4), (8, .int a8)]) dX2_choose_94 (by decide) rfl ?_
          refine X_iinc (lv' := [(8, .int (a8 + 1)), (5, .int a8), (6, .long q9.1), (9, .long q9.1), (0, .ref 95), (1, .ref a1), (2, .ref a2), (3, .ref a3), (4, .int a4)]) 8 dX2_choose_96 rfl rfl (by decide) rfl ?_
          refine X_goto (tgt := 33) dX2_choose_99 (by decide) ?_
          exact X_lv [4, 5, 6, 7, 8, 1, 2, 0] rfl (ih _ _ _ _ _ _ _ _ h1 h2 h3 hm)
def mX2_choose (K : Nat → Nat × Nat) (I : Nat → Nat → Int32) (L : Nat → Nat → Int64) (a1 : Nat) (a2 : Nat) (a3 : Nat) (a4 : Int32) : Option (Int32 × (Nat → Nat → Int64)) := (if inb a4 4 = true then (mX2_choose_33 K I xf (xu (xu L 96 0 a4.toInt64) 96 10 (I (a3 + 2) (ix a4)).toInt64) a1 a2 a3 a4 (-1 : Int32) (0 : Int64) (0 : Int32)) else none)
set_option maxHeartbeats 400000 in
set_option maxRecDepth 100000 in
theorem kX2_choose {E : xE} {B : Nat} {n : Nat} {K : Nat → Nat × Nat} {P : Nat → Nat → Nat} {I : Nat → Nat → Int32} {L : Nat → Nat → Int64}  {a1 : Nat} {a2 : Nat} {a3 : Nat} {a4 : Int32} {q : Int32 × (Nat → Nat → Int64)} (d : Nat) (hd : 3 ≤ d) (G : GW K P)  (h1 : K a1 = (2, 0)) (h2 : K a2 = (6, 0)) (h3 : K a3 = (5, 0)) (hm : mX2_choose K I L a1 a2 a3 a4 = some q) : MX E B d 0 0 yX2_choose cX2_choose 11 (some .int) [.ref 95, .ref a1, .ref a2, .ref a3, .int a4] (n, K, P, I, L) (some (.int q.1), (n, K, P, I, q.2)) := by
  refine MX_of (lv := [(0, .ref 95), (1, .ref a1), (2, .ref a2), (3, .ref a3), (4, .int a4)]) (by decide +kernel) (Nat.le_of_ble_eq_true rfl) rfl ?_
  obtain ⟨d, rfl⟩ : ∃ d0, d = d0 + 1 := ⟨d - 1, by omega⟩
  unfold mX2_choose at hm
  refine X_iconst (v := (-1 : Int32)) dX2_choose_0 (by decide) ?_
  refine X_istore (lv' := [(5, .int (-1 : Int32)), (0, .ref 95), (1, .ref a1), (2, .ref a2), (3, .ref a3), (4, .int a4)]) dX2_choose_1 (by decide) rfl ?_
  refine X_lconst (v := (0 : Int64)) dX2_choose_3 (by decide) ?_
  refine X_lstore (lv' := [(6, .long (0 : Int64)), (5, .int (-1 : Int32)), (0, .ref 95), (1, .ref a1), (2, .ref a2), (3, .ref a3), (4, .int a4)]) dX2_choose_4 (by decide) rfl ?_
  refine X_aload_n 2 dX2_choose_6 rfl rfl rfl ?_
  refine X_getPe fl_X2_11 (g_K95 G) rfl (g_P95_0 G) dX2_choose_7 ?_
  refine X_iconst (v := (0 : Int32)) dX2_choose_10 (by decide) ?_
  refine X_iload 6 dX2_choose_11 rfl ?_
  refine X_i2l dX2_choose_13 ?_
  refine X_lastJ (j := 0) (g_K96 G) rfl (by decide) dX2_choose_14 ?_
  refine X_aload_n 2 dX2_choose_15 rfl rfl rfl ?_
  refine X_getPe fl_X2_11 (g_K95 G) rfl (g_P95_0 G) dX2_choose_16 ?_
  refine X_bipush (v := (10 : Int32)) dX2_choose_19 (by decide) ?_
  refine X_aload_n 5 dX2_choose_21 rfl rfl rfl ?_
  refine X_getPe fl_X2_127 h3 rfl (gl5_P1 G h3) dX2_choose_22 ?_
  refine X_iload 6 dX2_choose_25 rfl ?_
  obtain ⟨g1, hm⟩ := og hm
  refine X_ialdJ (gl5_K2 G h3) g1 rfl dX2_choose_27 ?_
  refine X_i2l dX2_choose_28 ?_
  refine X_lastJ (j := 10) (g_K96 G) rfl (by decide) dX2_choose_29 ?_
  refine X_iconst (v := (0 : Int32)) dX2_choose_30 (by decide) ?_
  refine X_istore (lv' := [(8, .int (0 : Int32)), (6, .long (0 : Int64)), (5, .int (-1 : Int32)), (0, .ref 95), (1, .ref a1), (2, .ref a2), (3, .ref a3), (4, .int a4)]) dX2_choose_31 (by decide) rfl ?_
  refine X_lv [3, 4, 5, 6, 7, 2, 1, 0] rfl (kX2_choose_33 _ hd G xf _ _ _ _ _ _ _ _ h1 h2 h3 hm)
def mX7_putCoat  (I : Nat → Nat → Int32) (L : Nat → Nat → Int64) (a0 : Nat) (a1 : Nat) (a2 : Int32) (a3 : Int32) : Option ((Nat → Nat → Int32) × (Nat → Nat → Int64)) := (if inb a2 16 = true then (Option.bind (mX0_with (L (a1 + 1) (ix a2)) a3 (I a1 2)) (fun q2 => (if inb a2 16 = true then (if inb a3 4 = true then (if inb a3 4 = true then (some ((xu I (a1 + 2) (ix a3) ((I (a1 + 2) (ix a3)) - (I a0 3))), (xu L (a1 + 1) (ix a2) q2))) else none) else none) else none))) else none)
set_option maxHeartbeats 400000 in
set_option maxRecDepth 100000 in
theorem kX7_putCoat {E : xE} {B : Nat} {n : Nat} {K : Nat → Nat × Nat} {P : Nat → Nat → Nat} {I : Nat → Nat → Int32} {L : Nat → Nat → Int64}  {a0 : Nat} {a1 : Nat} {a2 : Int32} {a3 : Int32} {q : (Nat → Nat → Int32) × (Nat → Nat → Int64)} (d : Nat) (hd : 1 ≤ d) (G : GW K P)  (h0 : K a0 = (6, 0)) (h1 : K a1 = (5, 0)) (hm : mX7_putCoat I L a0 a1 a2 a3 = some q) : MX E B d 0 0 yX7_putCoat cX7_putCoat 4 (none : Option Jvm.ClassFile.FieldType) [.ref a0, .ref a1, .int a2, .int a3] (n, K, P, I, L) (none, (n, K, P, q.1, q.2)) := by
  refine MX_of (lv := [(0, .ref a0), (1, .ref a1), (2, .int a2), (3, .int a3)]) (by decide +kernel) (Nat.le_of_ble_eq_true rfl) rfl ?_
  obtain ⟨d, rfl⟩ : ∃ d0, d = d0 + 1 := ⟨d - 1, by omega⟩
  unfold mX7_putCoat at hm
  refine X_aload_n 1 dX7_putCoat_0 rfl rfl rfl ?_
  refine X_getPe fl_X7_75 h1 rfl (gl5_P0 G h1) dX7_putCoat_1 ?_
  refine X_iload_n 2 dX7_putCoat_4 rfl rfl ?_
  refine X_aload_n 1 dX7_putCoat_5 rfl rfl rfl ?_
  refine X_getPe fl_X7_75 h1 rfl (gl5_P0 G h1) dX7_putCoat_6 ?_
  refine X_iload_n 2 dX7_putCoat_9 rfl rfl ?_
  obtain ⟨g1, hm⟩ := og hm
  refine X_laldJ (gl5_K1 G h1) g1 rfl dX7_putCoat_10 ?_
  refine X_iload_n 3 dX7_putCoat_11 rfl rfl ?_
  refine X_aload_n 1 dX7_putCoat_12 rfl rfl rfl ?_
  refine X_getI fl_X7_79 h1 rfl dX7_putCoat_13 ?_
  obtain ⟨q2, e3, hm⟩ := ob hm
  refine X_cS1 (kX0_with d (by omega) G e3) ml_X7_114 ms_X0_with rfl rfl (Nat.le_refl _) ⟨Nat.le_refl _, Nat.le_refl _⟩ (Nat.le_of_ble_eq_true rfl) dX7_putCoat_16 ?_
  obtain ⟨g4, hm⟩ := og hm
  refine X_lastJ (gl5_K1 G h1) g4 rfl dX7_putCoat_19 ?_
  refine X_aload_n 1 dX7_putCoat_20 rfl rfl rfl ?_
  refine X_getPe fl_X7_108 h1 rfl (gl5_P1 G h1) dX7_putCoat_21 ?_
  refine X_iload_n 3 dX7_putCoat_24 rfl rfl ?_
  refine X_dup2 dX7_putCoat_25 rfl rfl ?_
  obtain ⟨g5, hm⟩ := og hm
  refine X_ialdJ (gl5_K2 G h1) g5 rfl dX7_putCoat_26 ?_
  refine X_aload_n 0 dX7_putCoat_27 rfl rfl rfl ?_
  refine X_getI fl_X7_111 h0 rfl dX7_putCoat_28 ?_
  refine X_isub dX7_putCoat_31 ?_
  obtain ⟨g6, hm⟩ := og hm
  refine X_iastJ (gl5_K2 G h1) g6 rfl dX7_putCoat_32 ?_
  replace hm := Option.some.inj hm
  subst hm
  exact X_vret dX7_putCoat_33 rfl
def mX2_paintBy_3 (K : Nat → Nat × Nat) (e26 : (Nat → Nat → Int32) → (Nat → Nat → Int64) → Nat → Nat → Nat → Option (Int32 × (Nat → Nat → Int32) × (Nat → Nat → Int64))) : Nat → (Nat → Nat → Int32) → (Nat → Nat → Int64) → Nat → Nat → Nat → Int32 → Option (Int32 × (Nat → Nat → Int32) × (Nat → Nat → Int64))
  | 0, _, _, _, _, _, _ => none
  | f + 1, I, L, a1, a2, a3, a4 => (if (I a2 5) ≤ a4 then (e26 I L a1 a2 a3) else (Option.bind (mX2_seeThing L I a2 a3 a4) (fun q2 => (mX2_paintBy_3 K e26 f q2 L a1 a2 a3 (a4 + 1)))))
set_option maxHeartbeats 400000 in
set_option maxRecDepth 100000 in
theorem kX2_paintBy_3 {E : xE} {B : Nat} {n : Nat} {K : Nat → Nat × Nat} {P : Nat → Nat → Nat}  {e26 : (Nat → Nat → Int32) → (Nat → Nat → Int64) → Nat → Nat → Nat → Option (Int32 × (Nat → Nat → Int32) × (Nat → Nat → Int64))} {q : Int32 × (Nat → Nat → Int32) × (Nat → Nat → Int64)} (d : Nat) (hd : 4 ≤ d) (G : GW K P)  (he26 : ∀ (I : Nat → Nat → Int32) (L : Nat → Nat → Int64) (a1 : Nat) (a2 : Nat) (a3 : Nat), K a1 = (2, 0) → K a2 = (6, 0) → K a3 = (5, 0) → e26 I L a1 a2 a3 = some q → X E B d 0 0 yX2_paintBy cX2_paintBy 7 (some .int) (some (.int q.1), (n, K, P, q.2.1, q.2.2)) 26 [(0, .ref 95), (1, .ref a1), (2, .ref a2), (3, .ref a3)] [] 0 0 (n, K, P, I, L)) : ∀ (f : Nat) (I : Nat → Nat → Int32) (L : Nat → Nat → Int64) (a1 : Nat) (a2 : Nat) (a3 : Nat) (a4 : Int32), K a1 = (2, 0) → K a2 = (6, 0) → K a3 = (5, 0) → mX2_paintBy_3 K e26 f I L a1 a2 a3 a4 = some q → X E B d 0 0 yX2_paintBy cX2_paintBy 7 (some .int) (some (.int q.1), (n, K, P, q.2.1, q.2.2)) 3 [(0, .ref 95), (1, .ref a1), (2, .ref a2), (3, .ref a3), (4, .int a4)] [] 0 0 (n, K, P, I, L) := by
  obtain ⟨d, rfl⟩ : ∃ d0, d = d0 + 1 := ⟨d - 1, by omega⟩
  intro f
  induction f with
  | zero => intro _ _ _ _ _ _ _ _ _ hm; exact nomatch (show (none : Option (Int32 × (Nat → Nat → Int32) × (Nat → Nat → Int64))) = some q from hm)
  | succ f ih =>
    intro I L a1 a2 a3 a4 h1 h2 h3 hm
    rw [mX2_paintBy_3] at hm
    refine X_iload 4 dX2_paintBy_3 rfl ?_
    refine X_aload_n 2 dX2_paintBy_5 rfl rfl rfl ?_
    refine X_getI fl_X2_104 h2 rfl dX2_paintBy_6 ?_
    refine X_icmp_ge (tgt := 26) dX2_paintBy_9 (by decide) (fun c1 => ?_) (fun c1 => ?_)
    · replace hm := ip c1 hm
      exact X_lv [0, 1, 2, 3] rfl (he26 _ _ _ _ _ h1 h2 h3 hm)
    · replace hm := iq c1 hm
      refine X_aload_n 0 dX2_paintBy_12 rfl rfl rfl ?_
      refine X_aload_n 2 dX2_paintBy_13 rfl rfl rfl ?_
      refine X_aload_n 3 dX2_paintBy_14 rfl rfl rfl ?_
      refine X_iload 4 dX2_paintBy_15 rfl ?_
      obtain ⟨q2, e3, hm⟩ := ob hm
      refine X_cV0 (ci := 1) (kX2_seeThing d (by omega) G h2 h3 e3) ml_X2_130 mi_X2_seeThing rfl cf_1 (g_K95 G) rfl rfl (Nat.le_refl _) ⟨Nat.le_refl _, Nat.le_refl _⟩ (Nat.le_of_ble_eq_true rfl) dX2_paintBy_17 ?_
      refine X_iinc (lv' := [(4, .int (a4 + 1)), (0, .ref 95), (1, .ref a1), (2, .ref a2), (3, .ref a3)]) 4 dX2_paintBy_20 rfl rfl (by decide) rfl ?_
      refine X_goto (tgt := 3) dX2_paintBy_23 (by decide) ?_
      exact X_lv [1, 2, 3, 4, 0] rfl (ih _ _ _ _ _ _ h1 h2 h3 hm)
def mX2_paintBy_67 (K : Nat → Nat × Nat)  : Nat → (Nat → Nat → Int32) → (Nat → Nat → Int64) → Nat → Nat → Nat → Int32 → Int32 → Option (Int32 × (Nat → Nat → Int32) × (Nat → Nat → Int64))
  | 0, _, _, _, _, _, _, _ => none
  | f + 1, I, L, a1, a2, a3, a4, a5 => (if (I a2 7) ≤ a5 then (some (a4, I, L)) else (if inb a5 4 = true then (if (I (a3 + 2) (ix a5)) < (I a2 3) then (mX2_paintBy_67 K f I L a1 a2 a3 a4 (a5 + 1)) else (Option.bind (mX2_choose K I L a1 a2 a3 a5) (fun q12 => (if q12.1 = (-1 : Int32) then (mX2_paintBy_67 K f I q12.2 a1 a2 a3 a4 (a5 + 1)) else (Option.bind (mX7_putCoat I q12.2 a2 a3 q12.1 a5) (fun q15 => (if inb q12.1 16 = true then (Option.bind (mX2_seeThing q15.2 q15.1 a2 a3 (q15.1 (a2 + 4) (ix q12.1))) (fun q18 => (mX2_paintBy_67 K f q18 q15.2 a1 a2 a3 (a4 + 1) (a5 + 1)))) else none))))))) else none))
set_option maxHeartbeats 400000 in
set_option maxRecDepth 100000 in
theorem kX2_paintBy_67 {E : xE} {B : Nat} {n : Nat} {K : Nat → Nat × Nat} {P : Nat → Nat → Nat}   {q : Int32 × (Nat → Nat → Int32) × (Nat → Nat → Int64)} (d : Nat) (hd : 4 ≤ d) (G : GW K P)   : ∀ (f : Nat) (I : Nat → Nat → Int32) (L : Nat → Nat → Int64) (a1 : Nat) (a2 : Nat) (a3 : Nat) (a4 : Int32) (a5 : Int32), K a1 = (2, 0) → K a2 = (6, 0) → K a3 = (5, 0) → mX2_paintBy_67 K f I L a1 a2 a3 a4 a5 = some q → X E B d 0 0 yX2_paintBy cX2_paintBy 7 (some .int) (some (.int q.1), (n, K, P, q.2.1, q.2.2)) 67 [(0, .ref 95), (1, .ref a1), (2, .ref a2), (3, .ref a3), (4, .int a4), (5, .int a5)] [] 0 0 (n, K, P, I, L) := by
  obtain ⟨d, rfl⟩ : ∃ d0, d = d0 + 1 := ⟨d - 1, by omega⟩
  intro f
  induction f with
  | zero => intro _ _ _ _ _ _ _ _ _ _ hm; exact nomatch (show (none : Option (Int32 × (Nat → Nat → Int32) × (Nat → Nat → Int64))) = some q from hm)
  | succ f ih =>
    intro I L a1 a2 a3 a4 a5 h1 h2 h3 hm
    rw [mX2_paintBy_67] at hm
    refine X_iload 5 dX2_paintBy_67 rfl ?_
    refine X_aload_n 2 dX2_paintBy_69 rfl rfl rfl ?_
    refine X_getI fl_X2_53 h2 rfl dX2_paintBy_70 ?_
    refine X_icmp_ge (tgt := 138) dX2_paintBy_73 (by decide) (fun c9 => ?_) (fun c9 => ?_)
    · replace hm := ip c9 hm
      refine X_iload 4 dX2_paintBy_138 rfl ?_
      replace hm := Option.some.inj hm
      subst hm
      exact X_iret dX2_paintBy_140 rfl
    · replace hm := iq c9 hm
      refine X_aload_n 3 dX2_paintBy_76 rfl rfl rfl ?_
      refine X_getPe fl_X2_127 h3 rfl (gl5_P1 G h3) dX2_paintBy_77 ?_
      refine X_iload 5 dX2_paintBy_80 rfl ?_
      obtain ⟨g10, hm⟩ := og hm
      refine X_ialdJ (gl5_K2 G h3) g10 rfl dX2_paintBy_82 ?_
      refine X_aload_n 2 dX2_paintBy_83 rfl rfl rfl ?_
      refine X_getI fl_X2_134 h2 rfl dX2_paintBy_84 ?_
      refine X_icmp_lt (tgt := 132) dX2_paintBy_87 (by decide) (fun c11 => ?_) (fun c11 => ?_)
      · replace hm := ip c11 hm
        refine X_iinc (lv' := [(5, .int (a5 + 1)), (0, .ref 95), (1, .ref a1), (2, .ref a2), (3, .ref a3), (4, .int a4)]) 5 dX2_paintBy_132 rfl rfl (by decide) rfl ?_
        refine X_goto (tgt := 67) dX2_paintBy_135 (by decide) ?_
        exact X_lv [1, 2, 3, 4, 5, 0] rfl (ih _ _ _ _ _ _ _ h1 h2 h3 hm)
      · replace hm := iq c11 hm
        refine X_aload_n 0 dX2_paintBy_90 rfl rfl rfl ?_
        refine X_aload_n 1 dX2_paintBy_91 rfl rfl rfl ?_
        refine X_aload_n 2 dX2_paintBy_92 rfl rfl rfl ?_
        refine X_aload_n 3 dX2_paintBy_93 rfl rfl rfl ?_
        refine X_iload 5 dX2_paintBy_94 rfl ?_
        obtain ⟨q12, e13, hm⟩ := ob hm
        refine X_cV1 (ci := 1) (kX2_choose d (by omega) G h1 h2 h3 e13) ml_X2_137 mi_X2_choose rfl cf_1 (g_K95 G) rfl rfl (Nat.le_refl _) ⟨Nat.le_refl _, Nat.le_refl _⟩ (Nat.le_of_ble_eq_true rfl) dX2_paintBy_96 ?_
        refine X_istore (lv' := [(6, .int q12.1), (0, .ref 95), (1, .ref a1), (2, .ref a2), (3, .ref a3), (4, .int a4), (5, .int a5)]) dX2_paintBy_99 (by decide) rfl ?_
        refine X_iload 0 dX2_paintBy_101 rfl ?_
        refine X_iconst (v := (-1 : Int32)) dX2_paintBy_103 (by decide) ?_
        refine X_icmp_eq (tgt := 132) dX2_paintBy_104 (by decide) (fun c14 => ?_) (fun c14 => ?_)
        · replace hm := ip c14 hm
          refine X_iinc (lv' := [(5, .int (a5 + 1)), (6, .int q12.1), (0, .ref 95), (1, .ref a1), (2, .ref a2), (3, .ref a3), (4, .int a4)]) 6 dX2_paintBy_132 rfl rfl (by decide) rfl ?_
          refine X_goto (tgt := 67) dX2_paintBy_135 (by decide) ?_
          exact X_lv [2, 3, 4, 5, 6, 0] rfl (ih _ _ _ _ _ _ _ h1 h2 h3 hm)
        · replace hm := iq c14 hm
          refine X_aload_n 3 dX2_paintBy_107 rfl rfl rfl ?_
          refine X_aload_n 4 dX2_paintBy_108 rfl rfl rfl ?_
          refine X_iload 0 dX2_paintBy_109 rfl ?_
          refine X_iload 6 dX2_paintBy_111 rfl ?_
          obtain ⟨q15, e16, hm⟩ := ob hm
          refine X_cV0 (ci := 6) (kX7_putCoat d (by omega) G h2 h3 e16) ml_X2_70 mi_X7_putCoat rfl cf_6 h2 rfl rfl (Nat.le_refl _) ⟨Nat.le_refl _, Nat.le_refl _⟩ (Nat.le_of_ble_eq_true rfl) dX2_paintBy_113 ?_
          refine X_aload_n 1 dX2_paintBy_116 rfl rfl rfl ?_
          refine X_aload_n 3 dX2_paintBy_117 rfl rfl rfl ?_
          refine X_aload_n 4 dX2_paintBy_118 rfl rfl rfl ?_
          refine X_aload_n 3 dX2_paintBy_119 rfl rfl rfl ?_
          refine X_getPe fl_X2_141 h2 rfl (gl6_P12 G h2) dX2_paintBy_120 ?_
          refine X_iload 0 dX2_paintBy_123 rfl ?_
          obtain ⟨g17, hm⟩ := og hm
          refine X_ialdJ (gl6_K4 G h2) g17 rfl dX2_paintBy_125 ?_
          obtain ⟨q18, e19, hm⟩ := ob hm
          refine X_cV0 (ci := 1) (kX2_seeThing d (by omega) G h2 h3 e19) ml_X2_130 mi_X2_seeThing rfl cf_1 (g_K95 G) rfl rfl (Nat.le_refl _) ⟨Nat.le_refl _, Nat.le_refl _⟩ (Nat.le_of_ble_eq_true rfl) dX2_paintBy_126 ?_
          refine X_iinc (lv' := [(4, .int (a4 + 1)), (6, .int q12.1), (0, .ref 95), (1, .ref a1), (2, .ref a2), (3, .ref a3), (5, .int a5)]) 5 dX2_paintBy_129 rfl rfl (by decide) rfl ?_
          refine X_iinc (lv' := [(5, .int (a5 + 1)), (4, .int (a4 + 1)), (6, .int q12.1), (0, .ref 95), (1, .ref a1), (2, .ref a2), (3, .ref a3)]) 6 dX2_paintBy_132 rfl rfl (by decide) rfl ?_
          refine X_goto (tgt := 67) dX2_paintBy_135 (by decide) ?_
          exact X_lv [3, 4, 5, 6, 1, 0] rfl (ih _ _ _ _ _ _ _ h1 h2 h3 hm)
def mX2_paintBy_60 (K : Nat → Nat × Nat) (I : Nat → Nat → Int32) (L : Nat → Nat → Int64) (a1 : Nat) (a2 : Nat) (a3 : Nat) (t0 : Int64) (t1 : Int32) : Option (Int32 × (Nat → Nat → Int32) × (Nat → Nat → Int64)) := (if inb t1 13 = true then (mX2_paintBy_67 K xf I (xu L 96 (ix t1) t0) a1 a2 a3 (0 : Int32) (0 : Int32)) else none)
set_option maxHeartbeats 400000 in
set_option maxRecDepth 100000 in
theorem kX2_paintBy_60 {E : xE} {B : Nat} {n : Nat} {K : Nat → Nat × Nat} {P : Nat → Nat → Nat} {I : Nat → Nat → Int32} {L : Nat → Nat → Int64}   {a1 : Nat} {a2 : Nat} {a3 : Nat} {t0 : Int64} {t1 : Int32} {q : Int32 × (Nat → Nat → Int32) × (Nat → Nat → Int64)} (d : Nat) (hd : 4 ≤ d) (G : GW K P)   (h1 : K a1 = (2, 0)) (h2 : K a2 = (6, 0)) (h3 : K a3 = (5, 0)) (hm : mX2_paintBy_60 K I L a1 a2 a3 t0 t1 = some q) : X E B d 0 0 yX2_paintBy cX2_paintBy 7 (some .int) (some (.int q.1), (n, K, P, q.2.1, q.2.2)) 60 [(0, .ref 95), (1, .ref a1), (2, .ref a2), (3, .ref a3)] [.long t0, .int t1, .ref 96] 0 0 (n, K, P, I, L) := by
  obtain ⟨d, rfl⟩ : ∃ d0, d = d0 + 1 := ⟨d - 1, by omega⟩
  unfold mX2_paintBy_60 at hm
  obtain ⟨g8, hm⟩ := og hm
  refine X_lastJ (g_K96 G) g8 rfl dX2_paintBy_60 ?_
  refine X_iconst (v := (0 : Int32)) dX2_paintBy_61 (by decide) ?_
  refine X_istore (lv' := [(4, .int (0 : Int32)), (0, .ref 95), (1, .ref a1), (2, .ref a2), (3, .ref a3)]) dX2_paintBy_62 (by decide) rfl ?_
  refine X_iconst (v := (0 : Int32)) dX2_paintBy_64 (by decide) ?_
  refine X_istore (lv' := [(5, .int (0 : Int32)), (4, .int (0 : Int32)), (0, .ref 95), (1, .ref a1), (2, .ref a2), (3, .ref a3)]) dX2_paintBy_65 (by decide) rfl ?_
  refine X_lv [2, 3, 4, 5, 1, 0] rfl (kX2_paintBy_67 _ hd G xf _ _ _ _ _ _ _ h1 h2 h3 hm)
def mX2_paintBy (K : Nat → Nat × Nat) (I : Nat → Nat → Int32) (L : Nat → Nat → Int64) (a1 : Nat) (a2 : Nat) (a3 : Nat) : Option (Int32 × (Nat → Nat → Int32) × (Nat → Nat → Int64)) := (mX2_paintBy_3 K (fun (I_4 : (Nat → Nat → Int32)) (L_4 : (Nat → Nat → Int64)) (a1_4 : Nat) (a2_4 : Nat) (a3_4 : Nat) => (Option.bind (mX7_rainsIn I_4 a2_4 (I_4 a3_4 2)) (fun q5 => (if q5 = 0 then (mX2_paintBy_60 K I_4 (xu L_4 96 11 (I_4 a3_4 2).toInt64) a1_4 a2_4 a3_4 (0 : Int64) (12 : Int32)) else (mX2_paintBy_60 K I_4 (xu L_4 96 11 (I_4 a3_4 2).toInt64) a1_4 a2_4 a3_4 (1 : Int64) (12 : Int32)))))) xf I L a1 a2 a3 (0 : Int32))
set_option maxHeartbeats 400000 in
set_option maxRecDepth 100000 in
theorem kX2_paintBy {E : xE} {B : Nat} {n : Nat} {K : Nat → Nat × Nat} {P : Nat → Nat → Nat} {I : Nat → Nat → Int32} {L : Nat → Nat → Int64}  {a1 : Nat} {a2 : Nat} {a3 : Nat} {q : Int32 × (Nat → Nat → Int32) × (Nat → Nat → Int64)} (d : Nat) (hd : 4 ≤ d) (G : GW K P)  (h1 : K a1 = (2, 0)) (h2 : K a2 = (6, 0)) (h3 : K a3 = (5, 0)) (hm : mX2_paintBy K I L a1 a2 a3 = some q) : MX E B d 0 0 yX2_paintBy cX2_paintBy 7 (some .int) [.ref 95, .ref a1, .ref a2, .ref a3] (n, K, P, I, L) (some (.int q.1), (n, K, P, q.2.1, q.2.2)) := by
  refine MX_of (lv := [(0, .ref 95), (1, .ref a1), (2, .ref a2), (3, .ref a3)]) (by decide +kernel) (Nat.le_of_ble_eq_true rfl) rfl ?_
  obtain ⟨d, rfl⟩ : ∃ d0, d = d0 + 1 := ⟨d - 1, by omega⟩
  unfold mX2_paintBy at hm
  refine X_iconst (v := (0 : Int32)) dX2_paintBy_0 (by decide) ?_
  refine X_istore (lv' := [(4, .int (0 : Int32)), (0, .ref 95), (1, .ref a1), (2, .ref a2), (3, .ref a3)]) dX2_paintBy_1 (by decide) rfl ?_
  refine X_lv [1, 2, 3, 4, 0] rfl (kX2_paintBy_3 _ hd G (fun I_4 L_4 a1_4 a2_4 a3_4 h1_4 h2_4 h3_4 hm => ?_) xf _ _ _ _ _ _ h1 h2 h3 hm)
  refine X_aload_n 0 dX2_paintBy_26 rfl rfl rfl ?_
  refine X_getPe fl_X2_11 (g_K95 G) rfl (g_P95_0 G) dX2_paintBy_27 ?_
  refine X_bipush (v := (11 : Int32)) dX2_paintBy_30 (by decide) ?_
  refine X_aload_n 3 dX2_paintBy_32 rfl rfl rfl ?_
  refine X_getI fl_X2_82 h3_4 rfl dX2_paintBy_33 ?_
  refine X_i2l dX2_paintBy_36 ?_
  refine X_lastJ (j := 11) (g_K96 G) rfl (by decide) dX2_paintBy_37 ?_
  refine X_aload_n 0 dX2_paintBy_38 rfl rfl rfl ?_
  refine X_getPe fl_X2_11 (g_K95 G) rfl (g_P95_0 G) dX2_paintBy_39 ?_
  refine X_bipush (v := (12 : Int32)) dX2_paintBy_42 (by decide) ?_
  refine X_aload_n 2 dX2_paintBy_44 rfl rfl rfl ?_
  refine X_aload_n 3 dX2_paintBy_45 rfl rfl rfl ?_
  refine X_getI fl_X2_82 h3_4 rfl dX2_paintBy_46 ?_
  obtain ⟨q5, e6, hm⟩ := ob hm
  refine X_cV1 (ci := 6) (kX7_rainsIn d (by omega) G h2_4 e6) ml_X2_87 mi_X7_rainsIn rfl cf_6 h2_4 rfl rfl (Nat.le_refl _) ⟨Nat.le_refl _, Nat.le_refl _⟩ (Nat.le_of_ble_eq_true rfl) dX2_paintBy_49 ?_
  refine X_if_eq (tgt := 59) dX2_paintBy_52 (by decide) (fun c7 => ?_) (fun c7 => ?_)
  · replace hm := ip c7 hm
    refine X_lconst (v := (0 : Int64)) dX2_paintBy_59 (by decide) ?_
    exact kX2_paintBy_60 _ hd G h1_4 h2_4 h3_4 hm
  · replace hm := iq c7 hm
    refine X_lconst (v := (1 : Int64)) dX2_paintBy_55 (by decide) ?_
    refine X_goto (tgt := 60) dX2_paintBy_56 (by decide) ?_
    exact kX2_paintBy_60 _ hd G h1_4 h2_4 h3_4 hm
def mX7_tallyOf_14 (I : Nat → Nat → Int32) (L : Nat → Nat → Int64)  : Nat → Nat → Nat → Int32 → Int32 → Int32 → Int32 → Option (Int32)
  | 0, _, _, _, _, _, _ => none
  | f + 1, a0, a1, a2, a3, a4, a5 => (if inb a2 4 = true then (if (a4 + (I (a0 + 2) (ix a2))) ≤ a5 then (some a3) else (if inb a5 16 = true then (Option.bind (mX7_ownerOf I a0 (L (a1 + 1) (ix a5)) (I a1 2)) (fun q5 => (Option.bind (mX7_oneFor q5) (fun q7 => (mX7_tallyOf_14 I L f a0 a1 a2 (a3 + q7) a4 (a5 + 1)))))) else none)) else none)
set_option maxHeartbeats 400000 in
set_option maxRecDepth 100000 in
theorem kX7_tallyOf_14 {E : xE} {B : Nat} {n : Nat} {K : Nat → Nat × Nat} {P : Nat → Nat → Nat} {I : Nat → Nat → Int32} {L : Nat → Nat → Int64}   {q : Int32} (d : Nat) (hd : 3 ≤ d) (G : GW K P)   : ∀ (f : Nat) (a0 : Nat) (a1 : Nat) (a2 : Int32) (a3 : Int32) (a4 : Int32) (a5 : Int32), K a0 = (6, 0) → K a1 = (5, 0) → mX7_tallyOf_14 I L f a0 a1 a2 a3 a4 a5 = some q → X E B d 0 0 yX7_tallyOf cX7_tallyOf 6 (some .int) (some (.int q), (n, K, P, I, L)) 14 [(0, .ref a0), (1, .ref a1), (2, .int a2), (3, .int a3), (4, .int a4), (5, .int a5)] [] 0 0 (n, K, P, I, L) := by
  obtain ⟨d, rfl⟩ : ∃ d0, d = d0 + 1 := ⟨d - 1, by omega⟩
  intro f
  induction f with
  | zero => intro _ _ _ _ _ _ _ _ hm; exact nomatch (show (none : Option (Int32)) = some q from hm)
  | succ f ih =>
    intro a0 a1 a2 a3 a4 a5 h0 h1 hm
    rw [mX7_tallyOf_14] at hm
    refine X_iload 5 dX7_tallyOf_14 rfl ?_
    refine X_iload 4 dX7_tallyOf_16 rfl ?_
    refine X_aload_n 0 dX7_tallyOf_18 rfl rfl rfl ?_
    refine X_getPe fl_X7_15 h0 rfl (gl6_P10 G h0) dX7_tallyOf_19 ?_
    refine X_iload_n 2 dX7_tallyOf_22 rfl rfl ?_
    obtain ⟨g2, hm⟩ := og hm
    refine X_ialdJ (gl6_K2 G h0) g2 rfl dX7_tallyOf_23 ?_
    refine X_iadd dX7_tallyOf_24 ?_
    refine X_icmp_ge (tgt := 55) dX7_tallyOf_25 (by decide) (fun c3 => ?_) (fun c3 => ?_)
    · replace hm := ip c3 hm
      refine X_iload_n 3 dX7_tallyOf_55 rfl rfl ?_
      replace hm := Option.some.inj hm
      subst hm
      exact X_iret dX7_tallyOf_56 rfl
    · replace hm := iq c3 hm
      refine X_iload_n 3 dX7_tallyOf_28 rfl rfl ?_
      refine X_aload_n 0 dX7_tallyOf_29 rfl rfl rfl ?_
      refine X_aload_n 1 dX7_tallyOf_30 rfl rfl rfl ?_
      refine X_getPe fl_X7_75 h1 rfl (gl5_P0 G h1) dX7_tallyOf_31 ?_
      refine X_iload 5 dX7_tallyOf_34 rfl ?_
      obtain ⟨g4, hm⟩ := og hm
      refine X_laldJ (gl5_K1 G h1) g4 rfl dX7_tallyOf_36 ?_
      refine X_aload_n 1 dX7_tallyOf_37 rfl rfl rfl ?_
      refine X_getI fl_X7_79 h1 rfl dX7_tallyOf_38 ?_
      obtain ⟨q5, e6, hm⟩ := ob hm
      refine X_cV1 (ci := 6) (kX7_ownerOf d (by omega) G h0 e6) ml_X7_82 mi_X7_ownerOf rfl cf_6 h0 rfl rfl (Nat.le_refl _) ⟨Nat.le_refl _, Nat.le_refl _⟩ (Nat.le_of_ble_eq_true rfl) dX7_tallyOf_41 ?_
      obtain ⟨q7, e8, hm⟩ := ob hm
      refine X_cS1 (kX7_oneFor d (by omega) G e8) ml_X7_86 ms_X7_oneFor rfl rfl (Nat.le_refl _) ⟨Nat.le_refl _, Nat.le_refl _⟩ (Nat.le_of_ble_eq_true rfl) dX7_tallyOf_44 ?_
      refine X_iadd dX7_tallyOf_47 ?_
      refine X_istore_n (lv' := [(3, .int (a3 + q7)), (0, .ref a0), (1, .ref a1), (2, .int a2), (4, .int a4), (5, .int a5)]) dX7_tallyOf_48 rfl (by decide) rfl ?_
      refine X_iinc (lv' := [(5, .int (a5 + 1)), (3, .int (a3 + q7)), (0, .ref a0), (1, .ref a1), (2, .int a2), (4, .int a4)]) 5 dX7_tallyOf_49 rfl rfl (by decide) rfl ?_
      refine X_goto (tgt := 14) dX7_tallyOf_52 (by decide) ?_
      exact X_lv [2, 3, 4, 1, 5, 0] rfl (ih _ _ _ _ _ _ h0 h1 hm)
def mX7_tallyOf (I : Nat → Nat → Int32) (L : Nat → Nat → Int64) (a0 : Nat) (a1 : Nat) (a2 : Int32) : Option (Int32) := (if inb a2 4 = true then (mX7_tallyOf_14 I L xf a0 a1 a2 (0 : Int32) (I (a0 + 1) (ix a2)) (I (a0 + 1) (ix a2))) else none)
set_option maxHeartbeats 400000 in
set_option maxRecDepth 100000 in
theorem kX7_tallyOf {E : xE} {B : Nat} {n : Nat} {K : Nat → Nat × Nat} {P : Nat → Nat → Nat} {I : Nat → Nat → Int32} {L : Nat → Nat → Int64}  {a0 : Nat} {a1 : Nat} {a2 : Int32} {q : Int32} (d : Nat) (hd : 3 ≤ d) (G : GW K P)  (h0 : K a0 = (6, 0)) (h1 : K a1 = (5, 0)) (hm : mX7_tallyOf I L a0 a1 a2 = some q) : MX E B d 0 0 yX7_tallyOf cX7_tallyOf 6 (some .int) [.ref a0, .ref a1, .int a2] (n, K, P, I, L) (some (.int q), (n, K, P, I, L)) := by
  refine MX_of (lv := [(0, .ref a0), (1, .ref a1), (2, .int a2)]) (by decide +kernel) (Nat.le_of_ble_eq_true rfl) rfl ?_
  obtain ⟨d, rfl⟩ : ∃ d0, d = d0 + 1 := ⟨d - 1, by omega⟩
  unfold mX7_tallyOf at hm
  refine X_iconst (v := (0 : Int32)) dX7_tallyOf_0 (by decide) ?_
  refine X_istore_n (lv' := [(3, .int (0 : Int32)), (0, .ref a0), (1, .ref a1), (2, .int a2)]) dX7_tallyOf_1 rfl (by decide) rfl ?_
  refine X_aload_n 1 dX7_tallyOf_2 rfl rfl rfl ?_
  refine X_getPe fl_X7_9 h0 rfl (gl6_P9 G h0) dX7_tallyOf_3 ?_
  refine X_iload_n 3 dX7_tallyOf_6 rfl rfl ?_
  obtain ⟨g1, hm⟩ := og hm
  refine X_ialdJ (gl6_K1 G h0) g1 rfl dX7_tallyOf_7 ?_
  refine X_istore (lv' := [(4, .int (I (a0 + 1) (ix a2))), (3, .int (0 : Int32)), (0, .ref a0), (1, .ref a1), (2, .int a2)]) dX7_tallyOf_8 (by decide) rfl ?_
  refine X_iload 0 dX7_tallyOf_10 rfl ?_
  refine X_istore (lv' := [(5, .int (I (a0 + 1) (ix a2))), (4, .int (I (a0 + 1) (ix a2))), (3, .int (0 : Int32)), (0, .ref a0), (1, .ref a1), (2, .int a2)]) dX7_tallyOf_12 (by decide) rfl ?_
  refine X_lv [3, 4, 5, 2, 1, 0] rfl (kX7_tallyOf_14 _ hd G xf _ _ _ _ _ _ h0 h1 hm)
def mX2_payRent  (I : Nat → Nat → Int32) (a1 : Nat) (a2 : Int32) (a3 : Int32) : Option ((Nat → Nat → Int32)) := (if a2 = (-1 : Int32) then (some I) else (if inb a2 4 = true then (Option.bind (mJ9_min_7cf53 (999 : Int32) ((I (a1 + 2) (ix a2)) + a3)) (fun q3 => (if inb a2 4 = true then (if inb a2 4 = true then (if inb a2 4 = true then (some (xu (xu I (a1 + 2) (ix a2) q3) 101 (ix a2) (((xu I (a1 + 2) (ix a2) q3) 101 (ix a2)) + a3))) else none) else none) else none))) else none))
set_option maxHeartbeats 400000 in
set_option maxRecDepth 100000 in
theorem kX2_payRent {E : xE} {B : Nat} {n : Nat} {K : Nat → Nat × Nat} {P : Nat → Nat → Nat} {I : Nat → Nat → Int32} {L : Nat → Nat → Int64}  {a1 : Nat} {a2 : Int32} {a3 : Int32} {q : (Nat → Nat → Int32)} (d : Nat) (hd : 1 ≤ d) (G : GW K P)  (h1 : K a1 = (5, 0)) (hm : mX2_payRent I a1 a2 a3 = some q) : MX E B d 0 0 yX2_payRent cX2_payRent 4 (none : Option Jvm.ClassFile.FieldType) [.ref 95, .ref a1, .int a2, .int a3] (n, K, P, I, L) (none, (n, K, P, q, L)) := by
  refine MX_of (lv := [(0, .ref 95), (1, .ref a1), (2, .int a2), (3, .int a3)]) (by decide +kernel) (Nat.le_of_ble_eq_true rfl) rfl ?_
  obtain ⟨d, rfl⟩ : ∃ d0, d = d0 + 1 := ⟨d - 1, by omega⟩
  unfold mX2_payRent at hm
  refine X_iload_n 2 dX2_payRent_0 rfl rfl ?_
  refine X_iconst (v := (-1 : Int32)) dX2_payRent_1 (by decide) ?_
  refine X_icmp_eq (tgt := 35) dX2_payRent_2 (by decide) (fun c1 => ?_) (fun c1 => ?_)
  · replace hm := ip c1 hm
    replace hm := Option.some.inj hm
    subst hm
    exact X_vret dX2_payRent_35 rfl
  · replace hm := iq c1 hm
    refine X_aload_n 1 dX2_payRent_5 rfl rfl rfl ?_
    refine X_getPe fl_X2_127 h1 rfl (gl5_P1 G h1) dX2_payRent_6 ?_
    refine X_iload_n 2 dX2_payRent_9 rfl rfl ?_
    refine X_sipush (v := (999 : Int32)) dX2_payRent_10 (by decide) ?_
    refine X_aload_n 1 dX2_payRent_13 rfl rfl rfl ?_
    refine X_getPe fl_X2_127 h1 rfl (gl5_P1 G h1) dX2_payRent_14 ?_
    refine X_iload_n 2 dX2_payRent_17 rfl rfl ?_
    obtain ⟨g2, hm⟩ := og hm
    refine X_ialdJ (gl5_K2 G h1) g2 rfl dX2_payRent_18 ?_
    refine X_iload_n 3 dX2_payRent_19 rfl rfl ?_
    refine X_iadd dX2_payRent_20 ?_
    obtain ⟨q3, e4, hm⟩ := ob hm
    refine X_cS1 (kJ9_min_7cf53 d (by omega) G e4) ml_X2_98 ms_J9_min_7cf53 rfl rfl (Nat.le_refl _) ⟨Nat.le_refl _, Nat.le_refl _⟩ (Nat.le_of_ble_eq_true rfl) dX2_payRent_21 ?_
    obtain ⟨g5, hm⟩ := og hm
    refine X_iastJ (gl5_K2 G h1) g5 rfl dX2_payRent_24 ?_
    refine X_aload_n 0 dX2_payRent_25 rfl rfl rfl ?_
    refine X_getPe fl_X2_32 (g_K95 G) rfl (g_P95_5 G) dX2_payRent_26 ?_
    refine X_iload_n 2 dX2_payRent_29 rfl rfl ?_
    refine X_dup2 dX2_payRent_30 rfl rfl ?_
    obtain ⟨g6, hm⟩ := og hm
    refine X_ialdJ (g_K101 G) g6 rfl dX2_payRent_31 ?_
    refine X_iload_n 3 dX2_payRent_32 rfl rfl ?_
    refine X_iadd dX2_payRent_33 ?_
    obtain ⟨g7, hm⟩ := og hm
    refine X_iastJ (g_K101 G) g7 rfl dX2_payRent_34 ?_
    replace hm := Option.some.inj hm
    subst hm
    exact X_vret dX2_payRent_35 rfl
def mX2_close_77   : Nat → (Nat → Nat → Int32) → (Nat → Nat → Int64) → Nat → Nat → Int32 → Option ((Nat → Nat → Int32) × (Nat → Nat → Int64))
  | 0, _, _, _, _, _ => none
  | f + 1, I, L, a1, a2, a3 => (if (I a1 5) ≤ a3 then (some (I, L)) else (Option.bind (mX7_tallyOf I L a1 a2 a3) (fun q8 => (if inb a3 4 = true then (Option.bind (mX7_ownerBy q8 (I (a1 + 2) (ix a3)) (I a1 2)) (fun q11 => (if inb a3 4 = true then (Option.bind (mX2_payRent I a2 q11 (I (a1 + 3) (ix a3))) (fun q14 => (mX2_close_77 f q14 L a1 a2 (a3 + 1)))) else none))) else none))))
set_option maxHeartbeats 400000 in
set_option maxRecDepth 100000 in
theorem kX2_close_77 {E : xE} {B : Nat} {n : Nat} {K : Nat → Nat × Nat} {P : Nat → Nat → Nat}   {q : (Nat → Nat → Int32) × (Nat → Nat → Int64)} (d : Nat) (hd : 4 ≤ d) (G : GW K P)   : ∀ (f : Nat) (I : Nat → Nat → Int32) (L : Nat → Nat → Int64) (a1 : Nat) (a2 : Nat) (a3 : Int32), K a1 = (6, 0) → K a2 = (5, 0) → mX2_close_77 f I L a1 a2 a3 = some q → X E B d 0 0 yX2_close cX2_close 5 (none : Option Jvm.ClassFile.FieldType) (none, (n, K, P, q.1, q.2)) 77 [(0, .ref 95), (1, .ref a1), (2, .ref a2), (3, .int a3)] [] 0 0 (n, K, P, I, L) := by
  obtain ⟨d, rfl⟩ : ∃ d0, d = d0 + 1 := ⟨d - 1, by omega⟩
  intro f
  induction f with
  | zero => intro _ _ _ _ _ _ _ hm; exact nomatch (show (none : Option ((Nat → Nat → Int32) × (Nat → Nat → Int64))) = some q from hm)
  | succ f ih =>
    intro I L a1 a2 a3 h1 h2 hm
    rw [mX2_close_77] at hm
    refine X_iload_n 3 dX2_close_77 rfl rfl ?_
    refine X_aload_n 1 dX2_close_78 rfl rfl rfl ?_
    refine X_getI fl_X2_104 h1 rfl dX2_close_79 ?_
    refine X_icmp_ge (tgt := 125) dX2_close_82 (by decide) (fun c7 => ?_) (fun c7 => ?_)
    · replace hm := ip c7 hm
      replace hm := Option.some.inj hm
      subst hm
      exact X_vret dX2_close_125 rfl
    · replace hm := iq c7 hm
      refine X_aload_n 1 dX2_close_85 rfl rfl rfl ?_
      refine X_aload_n 2 dX2_close_86 rfl rfl rfl ?_
      refine X_iload_n 3 dX2_close_87 rfl rfl ?_
      obtain ⟨q8, e9, hm⟩ := ob hm
      refine X_cV1 (ci := 6) (kX7_tallyOf d (by omega) G h1 h2 e9) ml_X2_107 mi_X7_tallyOf rfl cf_6 h1 rfl rfl (Nat.le_refl _) ⟨Nat.le_refl _, Nat.le_refl _⟩ (Nat.le_of_ble_eq_true rfl) dX2_close_88 ?_
      refine X_istore (lv' := [(4, .int q8), (0, .ref 95), (1, .ref a1), (2, .ref a2), (3, .int a3)]) dX2_close_91 (by decide) rfl ?_
      refine X_aload_n 1 dX2_close_93 rfl rfl rfl ?_
      refine X_aload_n 3 dX2_close_94 rfl rfl rfl ?_
      refine X_iload 0 dX2_close_95 rfl ?_
      refine X_aload_n 2 dX2_close_97 rfl rfl rfl ?_
      refine X_getPe fl_X2_111 h1 rfl (gl6_P10 G h1) dX2_close_98 ?_
      refine X_iload_n 4 dX2_close_101 rfl rfl ?_
      obtain ⟨g10, hm⟩ := og hm
      refine X_ialdJ (gl6_K2 G h1) g10 rfl dX2_close_102 ?_
      refine X_aload_n 2 dX2_close_103 rfl rfl rfl ?_
      refine X_getI fl_X2_114 h1 rfl dX2_close_104 ?_
      obtain ⟨q11, e12, hm⟩ := ob hm
      refine X_cS1 (kX7_ownerBy d (by omega) G e12) ml_X2_117 ms_X7_ownerBy rfl rfl (Nat.le_refl _) ⟨Nat.le_refl _, Nat.le_refl _⟩ (Nat.le_of_ble_eq_true rfl) dX2_close_107 ?_
      refine X_aload_n 2 dX2_close_110 rfl rfl rfl ?_
      refine X_getPe fl_X2_121 h1 rfl (gl6_P11 G h1) dX2_close_111 ?_
      refine X_iload_n 4 dX2_close_114 rfl rfl ?_
      obtain ⟨g13, hm⟩ := og hm
      refine X_ialdJ (gl6_K3 G h1) g13 rfl dX2_close_115 ?_
      obtain ⟨q14, e15, hm⟩ := ob hm
      refine X_cV0 (ci := 1) (kX2_payRent d (by omega) G h2 e15) ml_X2_124 mi_X2_payRent rfl cf_1 (g_K95 G) rfl rfl (Nat.le_refl _) ⟨Nat.le_refl _, Nat.le_refl _⟩ (Nat.le_of_ble_eq_true rfl) dX2_close_116 ?_
      refine X_iinc (lv' := [(3, .int (a3 + 1)), (4, .int q8), (0, .ref 95), (1, .ref a1), (2, .ref a2)]) 4 dX2_close_119 rfl rfl (by decide) rfl ?_
      refine X_goto (tgt := 77) dX2_close_122 (by decide) ?_
      exact X_lv [2, 3, 4, 0] rfl (ih _ _ _ _ _ h1 h2 hm)
def mX2_close_47  (I : Nat → Nat → Int32) (L : Nat → Nat → Int64) (a1 : Nat) (a2 : Nat) : Option ((Nat → Nat → Int32) × (Nat → Nat → Int64)) := (Option.bind (mJ9_min_7cf53 (999 : Int32) ((I a2 2) + (1 : Int32))) (fun q4 => (if (xrem ((xu I a2 2 q4) a2 2) (24 : Int32)) = (12 : Int32) then (mX2_close_77 xf (xu I a2 2 q4) L a1 a2 (0 : Int32)) else (some ((xu I a2 2 q4), L)))))
set_option maxHeartbeats 400000 in
set_option maxRecDepth 100000 in
theorem kX2_close_47 {E : xE} {B : Nat} {n : Nat} {K : Nat → Nat × Nat} {P : Nat → Nat → Nat} {I : Nat → Nat → Int32} {L : Nat → Nat → Int64}   {a1 : Nat} {a2 : Nat} {q : (Nat → Nat → Int32) × (Nat → Nat → Int64)} (d : Nat) (hd : 4 ≤ d) (G : GW K P)   (h1 : K a1 = (6, 0)) (h2 : K a2 = (5, 0)) (hm : mX2_close_47 I L a1 a2 = some q) : X E B d 0 0 yX2_close cX2_close 5 (none : Option Jvm.ClassFile.FieldType) (none, (n, K, P, q.1, q.2)) 47 [(0, .ref 95), (1, .ref a1), (2, .ref a2)] [] 0 0 (n, K, P, I, L) := by
  obtain ⟨d, rfl⟩ : ∃ d0, d = d0 + 1 := ⟨d - 1, by omega⟩
  unfold mX2_close_47 at hm
  refine X_aload_n 2 dX2_close_47 rfl rfl rfl ?_
  refine X_sipush (v := (999 : Int32)) dX2_close_48 (by decide) ?_
  refine X_aload_n 2 dX2_close_51 rfl rfl rfl ?_
  refine X_getI fl_X2_82 h2 rfl dX2_close_52 ?_
  refine X_iconst (v := (1 : Int32)) dX2_close_55 (by decide) ?_
  refine X_iadd dX2_close_56 ?_
  obtain ⟨q4, e5, hm⟩ := ob hm
  refine X_cS1 (kJ9_min_7cf53 d (by omega) G e5) ml_X2_98 ms_J9_min_7cf53 rfl rfl (Nat.le_refl _) ⟨Nat.le_refl _, Nat.le_refl _⟩ (Nat.le_of_ble_eq_true rfl) dX2_close_57 ?_
  refine X_putI fl_X2_82 h2 rfl rfl dX2_close_60 ?_
  refine X_aload_n 2 dX2_close_63 rfl rfl rfl ?_
  refine X_getI fl_X2_82 h2 rfl dX2_close_64 ?_
  refine X_bipush (v := (24 : Int32)) dX2_close_67 (by decide) ?_
  refine X_irem dX2_close_69 (by decide) ?_
  refine X_bipush (v := (12 : Int32)) dX2_close_70 (by decide) ?_
  refine X_icmp_ne (tgt := 125) dX2_close_72 (by decide) (fun c6 => ?_) (fun c6 => ?_)
  · replace hm := iq c6 hm
    replace hm := Option.some.inj hm
    subst hm
    exact X_vret dX2_close_125 rfl
  · replace hm := ip c6 hm
    refine X_iconst (v := (0 : Int32)) dX2_close_75 (by decide) ?_
    refine X_istore_n (lv' := [(3, .int (0 : Int32)), (0, .ref 95), (1, .ref a1), (2, .ref a2)]) dX2_close_76 rfl (by decide) rfl ?_
    refine X_lv [1, 2, 3, 0] rfl (kX2_close_77 _ hd G xf _ _ _ _ _ h1 h2 hm)
def mX2_close_13  (e47 : (Nat → Nat → Int32) → (Nat → Nat → Int64) → Nat → Nat → Option ((Nat → Nat → Int32) × (Nat → Nat → Int64))) : Nat → (Nat → Nat → Int32) → (Nat → Nat → Int64) → Nat → Nat → Int32 → Option ((Nat → Nat → Int32) × (Nat → Nat → Int64))
  | 0, _, _, _, _, _ => none
  | f + 1, I, L, a1, a2, a3 => (if (I a1 6) ≤ a3 then (e47 I L a1 a2) else (if inb a3 16 = true then (Option.bind (mX7_washed I a1 (L (a2 + 1) (ix a3)) (I a2 2)) (fun q18 => (if inb a3 16 = true then (mX2_close_13 e47 f I (xu L (a2 + 1) (ix a3) q18) a1 a2 (a3 + 1)) else none))) else none))
set_option maxHeartbeats 400000 in
set_option maxRecDepth 100000 in
theorem kX2_close_13 {E : xE} {B : Nat} {n : Nat} {K : Nat → Nat × Nat} {P : Nat → Nat → Nat}  {e47 : (Nat → Nat → Int32) → (Nat → Nat → Int64) → Nat → Nat → Option ((Nat → Nat → Int32) × (Nat → Nat → Int64))} {q : (Nat → Nat → Int32) × (Nat → Nat → Int64)} (d : Nat) (hd : 4 ≤ d) (G : GW K P)  (he47 : ∀ (I : Nat → Nat → Int32) (L : Nat → Nat → Int64) (a1 : Nat) (a2 : Nat), K a1 = (6, 0) → K a2 = (5, 0) → e47 I L a1 a2 = some q → X E B d 0 0 yX2_close cX2_close 5 (none : Option Jvm.ClassFile.FieldType) (none, (n, K, P, q.1, q.2)) 47 [(0, .ref 95), (1, .ref a1), (2, .ref a2)] [] 0 0 (n, K, P, I, L)) : ∀ (f : Nat) (I : Nat → Nat → Int32) (L : Nat → Nat → Int64) (a1 : Nat) (a2 : Nat) (a3 : Int32), K a1 = (6, 0) → K a2 = (5, 0) → mX2_close_13 e47 f I L a1 a2 a3 = some q → X E B d 0 0 yX2_close cX2_close 5 (none : Option Jvm.ClassFile.FieldType) (none, (n, K, P, q.1, q.2)) 13 [(0, .ref 95), (1, .ref a1), (2, .ref a2), (3, .int a3)] [] 0 0 (n, K, P, I, L) := by
  obtain ⟨d, rfl⟩ : ∃ d0, d = d0 + 1 := ⟨d - 1, by omega⟩
  intro f
  induction f with
  | zero => intro _ _ _ _ _ _ _ hm; exact nomatch (show (none : Option ((Nat → Nat → Int32) × (Nat → Nat → Int64))) = some q from hm)
  | succ f ih =>
    intro I L a1 a2 a3 h1 h2 hm
    rw [mX2_close_13] at hm
    refine X_iload_n 3 dX2_close_13 rfl rfl ?_
    refine X_aload_n 1 dX2_close_14 rfl rfl rfl ?_
    refine X_getI fl_X2_63 h1 rfl dX2_close_15 ?_
    refine X_icmp_ge (tgt := 47) dX2_close_18 (by decide) (fun c16 => ?_) (fun c16 => ?_)
    · replace hm := ip c16 hm
      exact X_lv [0, 1, 2] rfl (he47 _ _ _ _ h1 h2 hm)
    · replace hm := iq c16 hm
      refine X_aload_n 2 dX2_close_21 rfl rfl rfl ?_
      refine X_getPe fl_X2_91 h2 rfl (gl5_P0 G h2) dX2_close_22 ?_
      refine X_iload_n 3 dX2_close_25 rfl rfl ?_
      refine X_aload_n 1 dX2_close_26 rfl rfl rfl ?_
      refine X_aload_n 2 dX2_close_27 rfl rfl rfl ?_
      refine X_getPe fl_X2_91 h2 rfl (gl5_P0 G h2) dX2_close_28 ?_
      refine X_iload_n 3 dX2_close_31 rfl rfl ?_
      obtain ⟨g17, hm⟩ := og hm
      refine X_laldJ (gl5_K1 G h2) g17 rfl dX2_close_32 ?_
      refine X_aload_n 2 dX2_close_33 rfl rfl rfl ?_
      refine X_getI fl_X2_82 h2 rfl dX2_close_34 ?_
      obtain ⟨q18, e19, hm⟩ := ob hm
      refine X_cV1 (ci := 6) (kX7_washed d (by omega) G h1 e19) ml_X2_94 mi_X7_washed rfl cf_6 h1 rfl rfl (Nat.le_refl _) ⟨Nat.le_refl _, Nat.le_refl _⟩ (Nat.le_of_ble_eq_true rfl) dX2_close_37 ?_
      obtain ⟨g20, hm⟩ := og hm
      refine X_lastJ (gl5_K1 G h2) g20 rfl dX2_close_40 ?_
      refine X_iinc (lv' := [(3, .int (a3 + 1)), (0, .ref 95), (1, .ref a1), (2, .ref a2)]) 3 dX2_close_41 rfl rfl (by decide) rfl ?_
      refine X_goto (tgt := 13) dX2_close_44 (by decide) ?_
      exact X_lv [1, 2, 3, 0] rfl (ih _ _ _ _ _ h1 h2 hm)
def mX2_close  (I : Nat → Nat → Int32) (L : Nat → Nat → Int64) (a1 : Nat) (a2 : Nat) : Option ((Nat → Nat → Int32) × (Nat → Nat → Int64)) := (Option.bind (mX7_rainsIn I a1 (I a2 2)) (fun q1 => (if q1 = 0 then (mX2_close_47 I L a1 a2) else (mX2_close_13 (fun (I_21 : (Nat → Nat → Int32)) (L_21 : (Nat → Nat → Int64)) (a1_21 : Nat) (a2_21 : Nat) => (mX2_close_47 I_21 L_21 a1_21 a2_21)) xf I L a1 a2 (0 : Int32)))))
set_option maxHeartbeats 400000 in
set_option maxRecDepth 100000 in
theorem kX2_close {E : xE} {B : Nat} {n : Nat} {K : Nat → Nat × Nat} {P : Nat → Nat → Nat} {I : Nat → Nat → Int32} {L : Nat → Nat → Int64}  {a1 : Nat} {a2 : Nat} {q : (Nat → Nat → Int32) × (Nat → Nat → Int64)} (d : Nat) (hd : 4 ≤ d) (G : GW K P)  (h1 : K a1 = (6, 0)) (h2 : K a2 = (5, 0)) (hm : mX2_close I L a1 a2 = some q) : MX E B d 0 0 yX2_close cX2_close 5 (none : Option Jvm.ClassFile.FieldType) [.ref 95, .ref a1, .ref a2] (n, K, P, I, L) (none, (n, K, P, q.1, q.2)) := by
  refine MX_of (lv := [(0, .ref 95), (1, .ref a1), (2, .ref a2)]) (by decide +kernel) (Nat.le_of_ble_eq_true rfl) rfl ?_
  obtain ⟨d, rfl⟩ : ∃ d0, d = d0 + 1 := ⟨d - 1, by omega⟩
  unfold mX2_close at hm
  refine X_aload_n 1 dX2_close_0 rfl rfl rfl ?_
  refine X_aload_n 2 dX2_close_1 rfl rfl rfl ?_
  refine X_getI fl_X2_82 h2 rfl dX2_close_2 ?_
  obtain ⟨q1, e2, hm⟩ := ob hm
  refine X_cV1 (ci := 6) (kX7_rainsIn d (by omega) G h1 e2) ml_X2_87 mi_X7_rainsIn rfl cf_6 h1 rfl rfl (Nat.le_refl _) ⟨Nat.le_refl _, Nat.le_refl _⟩ (Nat.le_of_ble_eq_true rfl) dX2_close_5 ?_
  refine X_if_eq (tgt := 47) dX2_close_8 (by decide) (fun c3 => ?_) (fun c3 => ?_)
  · replace hm := ip c3 hm
    exact kX2_close_47 _ hd G h1 h2 hm
  · replace hm := iq c3 hm
    refine X_iconst (v := (0 : Int32)) dX2_close_11 (by decide) ?_
    refine X_istore_n (lv' := [(3, .int (0 : Int32)), (0, .ref 95), (1, .ref a1), (2, .ref a2)]) dX2_close_12 rfl (by decide) rfl ?_
    refine X_lv [1, 2, 3, 0] rfl (kX2_close_13 _ hd G (fun I_21 L_21 a1_21 a2_21 h1_21 h2_21 hm => ?_) xf _ _ _ _ _ h1 h2 hm)
    exact kX2_close_47 _ hd G h1_21 h2_21 hm
def mX2_pass_15 (K : Nat → Nat × Nat) (I : Nat → Nat → Int32) (L : Nat → Nat → Int64) (a1 : Nat) (a2 : Nat) (t0 : Int32) : Option (Int32 × (Nat → Nat → Int32) × (Nat → Nat → Int64)) := (Option.bind (mX2_close I L a1 a2) (fun q4 => (some (t0, q4.1, q4.2))))
set_option maxHeartbeats 400000 in
set_option maxRecDepth 100000 in
theorem kX2_pass_15 {E : xE} {B : Nat} {n : Nat} {K : Nat → Nat × Nat} {P : Nat → Nat → Nat} {I : Nat → Nat → Int32} {L : Nat → Nat → Int64}   {a1 : Nat} {a2 : Nat} {t0 : Int32} {q : Int32 × (Nat → Nat → Int32) × (Nat → Nat → Int64)} (d : Nat) (hd : 5 ≤ d) (G : GW K P)   (h1 : K a1 = (6, 0)) (h2 : K a2 = (5, 0)) (hm : mX2_pass_15 K I L a1 a2 t0 = some q) : X E B d 0 0 yX2_pass cX2_pass 5 (some .int) (some (.int q.1), (n, K, P, q.2.1, q.2.2)) 15 [(0, .ref 95), (1, .ref a1), (2, .ref a2)] [.int t0] 0 0 (n, K, P, I, L) := by
  obtain ⟨d, rfl⟩ : ∃ d0, d = d0 + 1 := ⟨d - 1, by omega⟩
  unfold mX2_pass_15 at hm
  refine X_istore (lv' := [(4, .int t0), (0, .ref 95), (1, .ref a1), (2, .ref a2)]) dX2_pass_15 (by decide) rfl ?_
  refine X_aload_n 1 dX2_pass_17 rfl rfl rfl ?_
  refine X_aload_n 2 dX2_pass_18 rfl rfl rfl ?_
  refine X_aload_n 3 dX2_pass_19 rfl rfl rfl ?_
  obtain ⟨q4, e5, hm⟩ := ob hm
  refine X_cV0 (ci := 1) (kX2_close d (by omega) G h1 h2 e5) ml_X2_45 mi_X2_close rfl cf_1 (g_K95 G) rfl rfl (Nat.le_refl _) ⟨Nat.le_refl _, Nat.le_refl _⟩ (Nat.le_of_ble_eq_true rfl) dX2_pass_20 ?_
  refine X_iload 0 dX2_pass_23 rfl ?_
  replace hm := Option.some.inj hm
  subst hm
  exact X_iret dX2_pass_25 rfl
def mX2_pass (K : Nat → Nat × Nat) (I : Nat → Nat → Int32) (L : Nat → Nat → Int64) (a1 : Nat) (a2 : Nat) (a3 : Nat) : Option (Int32 × (Nat → Nat → Int32) × (Nat → Nat → Int64)) := (if a3 ≠ 0 then (Option.bind (mX2_paintBy K I L a3 a1 a2) (fun q2 => (mX2_pass_15 K q2.2.1 q2.2.2 a1 a2 q2.1))) else (mX2_pass_15 K I L a1 a2 (0 : Int32)))
set_option maxHeartbeats 400000 in
set_option maxRecDepth 100000 in
theorem kX2_pass {E : xE} {B : Nat} {n : Nat} {K : Nat → Nat × Nat} {P : Nat → Nat → Nat} {I : Nat → Nat → Int32} {L : Nat → Nat → Int64}  {a1 : Nat} {a2 : Nat} {a3 : Nat} {q : Int32 × (Nat → Nat → Int32) × (Nat → Nat → Int64)} (d : Nat) (hd : 5 ≤ d) (G : GW K P)  (h1 : K a1 = (6, 0)) (h2 : K a2 = (5, 0)) (h3 : (a3 = 0 ∨ K a3 = (2, 0))) (hm : mX2_pass K I L a1 a2 a3 = some q) : MX E B d 0 0 yX2_pass cX2_pass 5 (some .int) [.ref 95, .ref a1, .ref a2, .ref a3] (n, K, P, I, L) (some (.int q.1), (n, K, P, q.2.1, q.2.2)) := by
  refine MX_of (lv := [(0, .ref 95), (1, .ref a1), (2, .ref a2), (3, .ref a3)]) (by decide +kernel) (Nat.le_of_ble_eq_true rfl) rfl ?_
  obtain ⟨d, rfl⟩ : ∃ d0, d = d0 + 1 := ⟨d - 1, by omega⟩
  unfold mX2_pass at hm
  refine X_aload_n 3 dX2_pass_0 rfl rfl rfl ?_
  refine X_ifnonnull (tgt := 8) dX2_pass_1 (by decide) (fun c1 => ?_) (fun c1 => ?_)
  · replace hm := ip c1 hm
    refine X_aload_n 0 dX2_pass_8 rfl rfl rfl ?_
    refine X_aload_n 3 dX2_pass_9 rfl rfl rfl ?_
    refine X_aload_n 1 dX2_pass_10 rfl rfl rfl ?_
    refine X_aload_n 2 dX2_pass_11 rfl rfl rfl ?_
    obtain ⟨q2, e3, hm⟩ := ob hm
    refine X_cV1 (ci := 1) (kX2_paintBy d (by omega) G (Or.resolve_left h3 c1) h1 h2 e3) ml_X2_41 mi_X2_paintBy rfl cf_1 (g_K95 G) rfl rfl (Nat.le_refl _) ⟨Nat.le_refl _, Nat.le_refl _⟩ (Nat.le_of_ble_eq_true rfl) dX2_pass_12 ?_
    exact X_lv [0, 1, 2] rfl (kX2_pass_15 _ hd G h1 h2 hm)
  · replace hm := iq c1 hm
    refine X_iconst (v := (0 : Int32)) dX2_pass_4 (by decide) ?_
    refine X_goto (tgt := 15) dX2_pass_5 (by decide) ?_
    exact X_lv [0, 1, 2] rfl (kX2_pass_15 _ hd G h1 h2 hm)
def mX2_beginDraws  (L : Nat → Nat → Int64) (a1 : Int32) : Option ((Nat → Nat → Int64)) := (some (xu L 95 6 a1.toInt64))
set_option maxHeartbeats 400000 in
set_option maxRecDepth 100000 in
theorem kX2_beginDraws {E : xE} {B : Nat} {n : Nat} {K : Nat → Nat × Nat} {P : Nat → Nat → Nat} {I : Nat → Nat → Int32} {L : Nat → Nat → Int64}  {a1 : Int32} {q : (Nat → Nat → Int64)} (d : Nat) (hd : 0 ≤ d) (G : GW K P)   (hm : mX2_beginDraws L a1 = some q) : MX E B d 0 0 yX2_beginDraws cX2_beginDraws 2 (none : Option Jvm.ClassFile.FieldType) [.ref 95, .int a1] (n, K, P, I, L) (none, (n, K, P, I, q)) := by
  refine MX_of (lv := [(0, .ref 95), (1, .int a1)]) (by decide +kernel) (Nat.le_of_ble_eq_true rfl) rfl ?_
  unfold mX2_beginDraws at hm
  refine X_aload_n 0 dX2_beginDraws_0 rfl rfl rfl ?_
  refine X_iload_n 1 dX2_beginDraws_1 rfl rfl ?_
  refine X_i2l dX2_beginDraws_2 ?_
  refine X_putL fl_X2_49 (g_K95 G) rfl rfl dX2_beginDraws_3 ?_
  replace hm := Option.some.inj hm
  subst hm
  exact X_vret dX2_beginDraws_6 rfl
def mX2_drawBelow  (L : Nat → Nat → Int64) (a1 : Int32) : Option (Int32 × (Nat → Nat → Int64)) := (if 0 < a1 then (if ¬ a1 = 0 then (some ((xrem (((xu L 95 6 (xlrem (((L 95 6) * (1103515245 : Int64)) + (12345 : Int64)) (2147483648 : Int64))) 95 6) / (65536 : Int64)).toInt32 a1), (xu L 95 6 (xlrem (((L 95 6) * (1103515245 : Int64)) + (12345 : Int64)) (2147483648 : Int64))))) else none) else (some ((0 : Int32), (xu L 95 6 (xlrem (((L 95 6) * (1103515245 : Int64)) + (12345 : Int64)) (2147483648 : Int64))))))
set_option maxHeartbeats 400000 in
set_option maxRecDepth 100000 in
theorem kX2_drawBelow {E : xE} {B : Nat} {n : Nat} {K : Nat → Nat × Nat} {P : Nat → Nat → Nat} {I : Nat → Nat → Int32} {L : Nat → Nat → Int64}  {a1 : Int32} {q : Int32 × (Nat → Nat → Int64)} (d : Nat) (hd : 0 ≤ d) (G : GW K P)   (hm : mX2_drawBelow L a1 = some q) : MX E B d 0 0 yX2_drawBelow cX2_drawBelow 2 (some .int) [.ref 95, .int a1] (n, K, P, I, L) (some (.int q.1), (n, K, P, I, q.2)) := by
  refine MX_of (lv := [(0, .ref 95), (1, .int a1)]) (by decide +kernel) (Nat.le_of_ble_eq_true rfl) rfl ?_
  unfold mX2_drawBelow at hm
  refine X_aload_n 0 dX2_drawBelow_0 rfl rfl rfl ?_
  refine X_aload_n 0 dX2_drawBelow_1 rfl rfl rfl ?_
  refine X_getL fl_X2_49 (g_K95 G) rfl dX2_drawBelow_2 ?_
  refine X_ldc2 lc_X2_74 dX2_drawBelow_5 ?_
  refine X_lmul dX2_drawBelow_8 ?_
  refine X_ldc2 lc_X2_76 dX2_drawBelow_9 ?_
  refine X_ladd dX2_drawBelow_12 ?_
  refine X_ldc2 lc_X2_78 dX2_drawBelow_13 ?_
  refine X_lrem dX2_drawBelow_16 (by decide) ?_
  refine X_putL fl_X2_49 (g_K95 G) rfl rfl dX2_drawBelow_17 ?_
  refine X_iload_n 1 dX2_drawBelow_20 rfl rfl ?_
  refine X_if_gt (tgt := 28) dX2_drawBelow_21 (by decide) (fun c1 => ?_) (fun c1 => ?_)
  · replace hm := ip c1 hm
    refine X_aload_n 0 dX2_drawBelow_28 rfl rfl rfl ?_
    refine X_getL fl_X2_49 (g_K95 G) rfl dX2_drawBelow_29 ?_
    refine X_ldc2 lc_X2_80 dX2_drawBelow_32 ?_
    refine X_ldiv dX2_drawBelow_35 (by decide) ?_
    refine X_l2i dX2_drawBelow_36 ?_
    refine X_iload_n 1 dX2_drawBelow_37 rfl rfl ?_
    obtain ⟨g2, hm⟩ := og hm
    refine X_irem dX2_drawBelow_38 g2 ?_
    replace hm := Option.some.inj hm
    subst hm
    exact X_iret dX2_drawBelow_39 rfl
  · replace hm := iq c1 hm
    refine X_iconst (v := (0 : Int32)) dX2_drawBelow_24 (by decide) ?_
    refine X_goto (tgt := 39) dX2_drawBelow_25 (by decide) ?_
    replace hm := Option.some.inj hm
    subst hm
    exact X_iret dX2_drawBelow_39 rfl
def mX7_canPaint (I : Nat → Nat → Int32) (a0 : Nat) (a1 : Nat) (a2 : Int32) (a3 : Int32) : Option (Int32) := (if inb a2 16 = true then (Option.bind (mX6_isBare I a1 (I (a0 + 4) (ix a2))) (fun q2 => (if q2 = 0 then (if inb a3 4 = true then (if (I (a1 + 2) (ix a3)) < (I a0 3) then (some (0 : Int32)) else (some (1 : Int32))) else none) else (some (0 : Int32))))) else none)
set_option maxHeartbeats 400000 in
set_option maxRecDepth 100000 in
theorem kX7_canPaint {E : xE} {B : Nat} {n : Nat} {K : Nat → Nat × Nat} {P : Nat → Nat → Nat} {I : Nat → Nat → Int32} {L : Nat → Nat → Int64}  {a0 : Nat} {a1 : Nat} {a2 : Int32} {a3 : Int32} {q : Int32} (d : Nat) (hd : 1 ≤ d) (G : GW K P)  (h0 : K a0 = (6, 0)) (h1 : K a1 = (5, 0)) (hm : mX7_canPaint I a0 a1 a2 a3 = some q) : MX E B d 0 0 yX7_canPaint cX7_canPaint 4 (some .boolean) [.ref a0, .ref a1, .int a2, .int a3] (n, K, P, I, L) (some (.int q), (n, K, P, I, L)) := by
  refine MX_of (lv := [(0, .ref a0), (1, .ref a1), (2, .int a2), (3, .int a3)]) (by decide +kernel) (Nat.le_of_ble_eq_true rfl) rfl ?_
  obtain ⟨d, rfl⟩ : ∃ d0, d = d0 + 1 := ⟨d - 1, by omega⟩
  unfold mX7_canPaint at hm
  refine X_aload_n 1 dX7_canPaint_0 rfl rfl rfl ?_
  refine X_aload_n 0 dX7_canPaint_1 rfl rfl rfl ?_
  refine X_getPe fl_X7_21 h0 rfl (gl6_P12 G h0) dX7_canPaint_2 ?_
  refine X_iload_n 2 dX7_canPaint_5 rfl rfl ?_
  obtain ⟨g1, hm⟩ := og hm
  refine X_ialdJ (gl6_K4 G h0) g1 rfl dX7_canPaint_6 ?_
  obtain ⟨q2, e3, hm⟩ := ob hm
  refine X_cV1 (ci := 5) (kX6_isBare d (by omega) G h1 e3) ml_X7_105 mi_X6_isBare rfl cf_5 h1 rfl rfl (Nat.le_refl _) ⟨Nat.le_refl _, Nat.le_refl _⟩ (Nat.le_of_ble_eq_true rfl) dX7_canPaint_7 ?_
  refine X_if_ne (tgt := 30) dX7_canPaint_10 (by decide) (fun c4 => ?_) (fun c4 => ?_)
  · replace hm := iq c4 hm
    refine X_iconst (v := (0 : Int32)) dX7_canPaint_30 (by decide) ?_
    replace hm := Option.some.inj hm
    subst hm
    exact X_zret (v := (0 : Int32)) dX7_canPaint_31 rfl (x_nz (Or.inl rfl))
  · replace hm := ip c4 hm
    refine X_aload_n 1 dX7_canPaint_13 rfl rfl rfl ?_
    refine X_getPe fl_X7_108 h1 rfl (gl5_P1 G h1) dX7_canPaint_14 ?_
    refine X_iload_n 3 dX7_canPaint_17 rfl rfl ?_
    obtain ⟨g5, hm⟩ := og hm
    refine X_ialdJ (gl5_K2 G h1) g5 rfl dX7_canPaint_18 ?_
    refine X_aload_n 0 dX7_canPaint_19 rfl rfl rfl ?_
    refine X_getI fl_X7_111 h0 rfl dX7_canPaint_20 ?_
    refine X_icmp_lt (tgt := 30) dX7_canPaint_23 (by decide) (fun c6 => ?_) (fun c6 => ?_)
    · replace hm := ip c6 hm
      refine X_iconst (v := (0 : Int32)) dX7_canPaint_30 (by decide) ?_
      replace hm := Option.some.inj hm
      subst hm
      exact X_zret (v := (0 : Int32)) dX7_canPaint_31 rfl (x_nz (Or.inl rfl))
    · replace hm := iq c6 hm
      refine X_iconst (v := (1 : Int32)) dX7_canPaint_26 (by decide) ?_
      refine X_goto (tgt := 31) dX7_canPaint_27 (by decide) ?_
      replace hm := Option.some.inj hm
      subst hm
      exact X_zret (v := (1 : Int32)) dX7_canPaint_31 rfl (x_nz (Or.inr rfl))
def mX2_passDrawn_42  (I : Nat → Nat → Int32) (L : Nat → Nat → Int64) (a1 : Nat) (a2 : Nat) (a5 : Int32) : Option (Int32 × (Nat → Nat → Int32) × (Nat → Nat → Int64)) := (Option.bind (mX2_close I L a1 a2) (fun q8 => (if a5 = 0 then (some ((0 : Int32), q8.1, q8.2)) else (some ((1 : Int32), q8.1, q8.2)))))
set_option maxHeartbeats 400000 in
set_option maxRecDepth 100000 in
theorem kX2_passDrawn_42 {E : xE} {B : Nat} {n : Nat} {K : Nat → Nat × Nat} {P : Nat → Nat → Nat} {I : Nat → Nat → Int32} {L : Nat → Nat → Int64}   {a1 : Nat} {a2 : Nat} {a5 : Int32} {q : Int32 × (Nat → Nat → Int32) × (Nat → Nat → Int64)} (d : Nat) (hd : 5 ≤ d) (G : GW K P)   (h1 : K a1 = (6, 0)) (h2 : K a2 = (5, 0)) (hm : mX2_passDrawn_42 I L a1 a2 a5 = some q) : X E B d 0 0 yX2_passDrawn cX2_passDrawn 6 (some .int) (some (.int q.1), (n, K, P, q.2.1, q.2.2)) 42 [(0, .ref 95), (1, .ref a1), (2, .ref a2), (5, .int a5)] [] 0 0 (n, K, P, I, L) := by
  obtain ⟨d, rfl⟩ : ∃ d0, d = d0 + 1 := ⟨d - 1, by omega⟩
  unfold mX2_passDrawn_42 at hm
  refine X_aload_n 0 dX2_passDrawn_42 rfl rfl rfl ?_
  refine X_aload_n 1 dX2_passDrawn_43 rfl rfl rfl ?_
  refine X_aload_n 2 dX2_passDrawn_44 rfl rfl rfl ?_
  obtain ⟨q8, e9, hm⟩ := ob hm
  refine X_cV0 (ci := 1) (kX2_close d (by omega) G h1 h2 e9) ml_X2_45 mi_X2_close rfl cf_1 (g_K95 G) rfl rfl (Nat.le_refl _) ⟨Nat.le_refl _, Nat.le_refl _⟩ (Nat.le_of_ble_eq_true rfl) dX2_passDrawn_45 ?_
  refine X_iload 3 dX2_passDrawn_48 rfl ?_
  refine X_if_eq (tgt := 57) dX2_passDrawn_50 (by decide) (fun c10 => ?_) (fun c10 => ?_)
  · replace hm := ip c10 hm
    refine X_iconst (v := (0 : Int32)) dX2_passDrawn_57 (by decide) ?_
    replace hm := Option.some.inj hm
    subst hm
    exact X_iret dX2_passDrawn_58 rfl
  · replace hm := iq c10 hm
    refine X_iconst (v := (1 : Int32)) dX2_passDrawn_53 (by decide) ?_
    refine X_goto (tgt := 58) dX2_passDrawn_54 (by decide) ?_
    replace hm := Option.some.inj hm
    subst hm
    exact X_iret dX2_passDrawn_58 rfl
def mX2_passDrawn  (I : Nat → Nat → Int32) (L : Nat → Nat → Int64) (a1 : Nat) (a2 : Nat) : Option (Int32 × (Nat → Nat → Int32) × (Nat → Nat → Int64)) := (Option.bind (mX2_drawBelow L (I a1 7)) (fun q1 => (Option.bind (mX2_drawBelow q1.2 (I a1 6)) (fun q3 => (Option.bind (mX7_canPaint I a1 a2 q3.1 q1.1) (fun q5 => (if q5 = 0 then (mX2_passDrawn_42 I q3.2 a1 a2 q5) else (Option.bind (mX7_putCoat I q3.2 a1 a2 q3.1 q1.1) (fun q11 => (mX2_passDrawn_42 q11.1 q11.2 a1 a2 q5))))))))))
set_option maxHeartbeats 400000 in
set_option maxRecDepth 100000 in
theorem kX2_passDrawn {E : xE} {B : Nat} {n : Nat} {K : Nat → Nat × Nat} {P : Nat → Nat → Nat} {I : Nat → Nat → Int32} {L : Nat → Nat → Int64}  {a1 : Nat} {a2 : Nat} {q : Int32 × (Nat → Nat → Int32) × (Nat → Nat → Int64)} (d : Nat) (hd : 5 ≤ d) (G : GW K P)  (h1 : K a1 = (6, 0)) (h2 : K a2 = (5, 0)) (hm : mX2_passDrawn I L a1 a2 = some q) : MX E B d 0 0 yX2_passDrawn cX2_passDrawn 6 (some .int) [.ref 95, .ref a1, .ref a2] (n, K, P, I, L) (some (.int q.1), (n, K, P, q.2.1, q.2.2)) := by
  refine MX_of (lv := [(0, .ref 95), (1, .ref a1), (2, .ref a2)]) (by decide +kernel) (Nat.le_of_ble_eq_true rfl) rfl ?_
  obtain ⟨d, rfl⟩ : ∃ d0, d = d0 + 1 := ⟨d - 1, by omega⟩
  unfold mX2_passDrawn at hm
  refine X_aload_n 0 dX2_passDrawn_0 rfl rfl rfl ?_
  refine X_aload_n 1 dX2_passDrawn_1 rfl rfl rfl ?_
  refine X_getI fl_X2_53 h1 rfl dX2_passDrawn_2 ?_
  obtain ⟨q1, e2, hm⟩ := ob hm
  refine X_cV1 (ci := 1) (kX2_drawBelow d (by omega) G e2) ml_X2_59 mi_X2_drawBelow rfl cf_1 (g_K95 G) rfl rfl (Nat.le_refl _) ⟨Nat.le_refl _, Nat.le_refl _⟩ (Nat.le_of_ble_eq_true rfl) dX2_passDrawn_5 ?_
  refine X_istore_n (lv' := [(3, .int q1.1), (0, .ref 95), (1, .ref a1), (2, .ref a2)]) dX2_passDrawn_8 rfl (by decide) rfl ?_
  refine X_aload_n 1 dX2_passDrawn_9 rfl rfl rfl ?_
  refine X_aload_n 2 dX2_passDrawn_10 rfl rfl rfl ?_
  refine X_getI fl_X2_63 h1 rfl dX2_passDrawn_11 ?_
  obtain ⟨q3, e4, hm⟩ := ob hm
  refine X_cV1 (ci := 1) (kX2_drawBelow d (by omega) G e4) ml_X2_59 mi_X2_drawBelow rfl cf_1 (g_K95 G) rfl rfl (Nat.le_refl _) ⟨Nat.le_refl _, Nat.le_refl _⟩ (Nat.le_of_ble_eq_true rfl) dX2_passDrawn_14 ?_
  refine X_istore (lv' := [(4, .int q3.1), (3, .int q1.1), (0, .ref 95), (1, .ref a1), (2, .ref a2)]) dX2_passDrawn_17 (by decide) rfl ?_
  refine X_aload_n 3 dX2_passDrawn_19 rfl rfl rfl ?_
  refine X_aload_n 4 dX2_passDrawn_20 rfl rfl rfl ?_
  refine X_iload 0 dX2_passDrawn_21 rfl ?_
  refine X_iload_n 1 dX2_passDrawn_23 rfl rfl ?_
  obtain ⟨q5, e6, hm⟩ := ob hm
  refine X_cV1 (ci := 6) (kX7_canPaint d (by omega) G h1 h2 e6) ml_X2_66 mi_X7_canPaint rfl cf_6 h1 rfl rfl (Nat.le_refl _) ⟨Nat.le_refl _, Nat.le_refl _⟩ (Nat.le_of_ble_eq_true rfl) dX2_passDrawn_24 ?_
  refine X_istore (lv' := [(5, .int q5), (4, .int q3.1), (3, .int q1.1), (0, .ref 95), (1, .ref a1), (2, .ref a2)]) dX2_passDrawn_27 (by decide) rfl ?_
  refine X_iload 0 dX2_passDrawn_29 rfl ?_
  refine X_if_eq (tgt := 42) dX2_passDrawn_31 (by decide) (fun c7 => ?_) (fun c7 => ?_)
  · replace hm := ip c7 hm
    exact X_lv [3, 4, 5, 0] rfl (kX2_passDrawn_42 _ hd G h1 h2 hm)
  · replace hm := iq c7 hm
    refine X_aload_n 4 dX2_passDrawn_34 rfl rfl rfl ?_
    refine X_aload_n 5 dX2_passDrawn_35 rfl rfl rfl ?_
    refine X_iload 1 dX2_passDrawn_36 rfl ?_
    refine X_iload_n 2 dX2_passDrawn_38 rfl rfl ?_
    obtain ⟨q11, e12, hm⟩ := ob hm
    refine X_cV0 (ci := 6) (kX7_putCoat d (by omega) G h1 h2 e12) ml_X2_70 mi_X7_putCoat rfl cf_6 h1 rfl rfl (Nat.le_refl _) ⟨Nat.le_refl _, Nat.le_refl _⟩ (Nat.le_of_ble_eq_true rfl) dX2_passDrawn_39 ?_
    exact X_lv [3, 4, 5, 0] rfl (kX2_passDrawn_42 _ hd G h1 h2 hm)
def mX9_kind (I : Nat → Nat → Int32)  : Option (Int32) := (if (I 3 3) ≤ (I 3 4) then (some (36 : Int32)) else (if inb (I 3 4) 401 = true then (some (I 4 (ix (I 3 4)))) else none))
set_option maxHeartbeats 400000 in
set_option maxRecDepth 100000 in
theorem kX9_kind {E : xE} {B : Nat} {n : Nat} {K : Nat → Nat × Nat} {P : Nat → Nat → Nat} {I : Nat → Nat → Int32} {L : Nat → Nat → Int64}   {q : Int32} (d : Nat) (hd : 0 ≤ d) (G : GW K P)   (hm : mX9_kind I = some q) : MX E B d 0 0 yX9_kind cX9_kind 1 (some .int) [.ref 3] (n, K, P, I, L) (some (.int q), (n, K, P, I, L)) := by
  refine MX_of (lv := [(0, .ref 3)]) (by decide +kernel) (Nat.le_of_ble_eq_true rfl) rfl ?_
  unfold mX9_kind at hm
  refine X_aload_n 0 dX9_kind_0 rfl rfl rfl ?_
  refine X_getI fl_X9_25 (g_K3 G) rfl dX9_kind_1 ?_
  refine X_aload_n 0 dX9_kind_4 rfl rfl rfl ?_
  refine X_getI fl_X9_21 (g_K3 G) rfl dX9_kind_5 ?_
  refine X_icmp_ge (tgt := 23) dX9_kind_8 (by decide) (fun c1 => ?_) (fun c1 => ?_)
  · replace hm := ip c1 hm
    refine X_bipush (v := (36 : Int32)) dX9_kind_23 (by decide) ?_
    replace hm := Option.some.inj hm
    subst hm
    exact X_iret dX9_kind_25 rfl
  · replace hm := iq c1 hm
    refine X_aload_n 0 dX9_kind_11 rfl rfl rfl ?_
    refine X_getPe fl_X9_9 (g_K3 G) rfl (g_P3_0 G) dX9_kind_12 ?_
    refine X_aload_n 0 dX9_kind_15 rfl rfl rfl ?_
    refine X_getI fl_X9_25 (g_K3 G) rfl dX9_kind_16 ?_
    obtain ⟨g2, hm⟩ := og hm
    refine X_ialdJ (g_K4 G) g2 rfl dX9_kind_19 ?_
    refine X_goto (tgt := 25) dX9_kind_20 (by decide) ?_
    replace hm := Option.some.inj hm
    subst hm
    exact X_iret dX9_kind_25 rfl
def mX9_fail_24  (I : Nat → Nat → Int32) (a1 : Int32) (t0 : Int32) : Option (Int32 × (Nat → Nat → Int32)) := (some ((0 : Int32), (xu I 3 5 (((1 : Int32) + ((8 : Int32) * t0)) + a1))))
set_option maxHeartbeats 400000 in
set_option maxRecDepth 100000 in
theorem kX9_fail_24 {E : xE} {B : Nat} {n : Nat} {K : Nat → Nat × Nat} {P : Nat → Nat → Nat} {I : Nat → Nat → Int32} {L : Nat → Nat → Int64}   {a1 : Int32} {t0 : Int32} {q : Int32 × (Nat → Nat → Int32)} (d : Nat) (hd : 0 ≤ d) (G : GW K P)    (hm : mX9_fail_24 I a1 t0 = some q) : X E B d 0 0 yX9_fail cX9_fail 3 (some .boolean) (some (.int q.1), (n, K, P, q.2, L)) 24 [(0, .ref 3), (1, .int a1)] [.int t0] 0 0 (n, K, P, I, L) := by
  unfold mX9_fail_24 at hm
  refine X_istore_n (lv' := [(2, .int t0), (0, .ref 3), (1, .int a1)]) dX9_fail_24 rfl (by decide) rfl ?_
  refine X_aload_n 1 dX9_fail_25 rfl rfl rfl ?_
  refine X_iconst (v := (1 : Int32)) dX9_fail_26 (by decide) ?_
  refine X_bipush (v := (8 : Int32)) dX9_fail_27 (by decide) ?_
  refine X_iload_n 0 dX9_fail_29 rfl rfl ?_
  refine X_imul dX9_fail_30 ?_
  refine X_iadd dX9_fail_31 ?_
  refine X_iload_n 2 dX9_fail_32 rfl rfl ?_
  refine X_iadd dX9_fail_33 ?_
  refine X_putI fl_X9_28 (g_K3 G) rfl rfl dX9_fail_34 ?_
  refine X_iconst (v := (0 : Int32)) dX9_fail_37 (by decide) ?_
  replace hm := Option.some.inj hm
  subst hm
  exact X_zret (v := (0 : Int32)) dX9_fail_38 rfl (x_nz (Or.inl rfl))
def mX9_fail  (I : Nat → Nat → Int32) (a1 : Int32) : Option (Int32 × (Nat → Nat → Int32)) := (if (I 3 3) ≤ (I 3 4) then (mX9_fail_24 I a1 (0 : Int32)) else (if inb (I 3 4) 401 = true then (mX9_fail_24 I a1 (I 5 (ix (I 3 4)))) else none))
set_option maxHeartbeats 400000 in
set_option maxRecDepth 100000 in
theorem kX9_fail {E : xE} {B : Nat} {n : Nat} {K : Nat → Nat × Nat} {P : Nat → Nat → Nat} {I : Nat → Nat → Int32} {L : Nat → Nat → Int64}  {a1 : Int32} {q : Int32 × (Nat → Nat → Int32)} (d : Nat) (hd : 0 ≤ d) (G : GW K P)   (hm : mX9_fail I a1 = some q) : MX E B d 0 0 yX9_fail cX9_fail 3 (some .boolean) [.ref 3, .int a1] (n, K, P, I, L) (some (.int q.1), (n, K, P, q.2, L)) := by
  refine MX_of (lv := [(0, .ref 3), (1, .int a1)]) (by decide +kernel) (Nat.le_of_ble_eq_true rfl) rfl ?_
  unfold mX9_fail at hm
  refine X_aload_n 0 dX9_fail_0 rfl rfl rfl ?_
  refine X_getI fl_X9_25 (g_K3 G) rfl dX9_fail_1 ?_
  refine X_aload_n 0 dX9_fail_4 rfl rfl rfl ?_
  refine X_getI fl_X9_21 (g_K3 G) rfl dX9_fail_5 ?_
  refine X_icmp_ge (tgt := 23) dX9_fail_8 (by decide) (fun c1 => ?_) (fun c1 => ?_)
  · replace hm := ip c1 hm
    refine X_iconst (v := (0 : Int32)) dX9_fail_23 (by decide) ?_
    exact kX9_fail_24 _ hd G hm
  · replace hm := iq c1 hm
    refine X_aload_n 0 dX9_fail_11 rfl rfl rfl ?_
    refine X_getPe fl_X9_15 (g_K3 G) rfl (g_P3_1 G) dX9_fail_12 ?_
    refine X_aload_n 0 dX9_fail_15 rfl rfl rfl ?_
    refine X_getI fl_X9_25 (g_K3 G) rfl dX9_fail_16 ?_
    obtain ⟨g2, hm⟩ := og hm
    refine X_ialdJ (g_K5 G) g2 rfl dX9_fail_19 ?_
    refine X_goto (tgt := 24) dX9_fail_20 (by decide) ?_
    exact kX9_fail_24 _ hd G hm
def mX9_step  (I : Nat → Nat → Int32) : Option ((Nat → Nat → Int32)) := (if ((I 3 3) - (1 : Int32)) ≤ (I 3 4) then (some I) else (some (xu I 3 4 ((I 3 4) + (1 : Int32)))))
set_option maxHeartbeats 400000 in
set_option maxRecDepth 100000 in
theorem kX9_step {E : xE} {B : Nat} {n : Nat} {K : Nat → Nat × Nat} {P : Nat → Nat → Nat} {I : Nat → Nat → Int32} {L : Nat → Nat → Int64}   {q : (Nat → Nat → Int32)} (d : Nat) (hd : 0 ≤ d) (G : GW K P)   (hm : mX9_step I = some q) : MX E B d 0 0 yX9_step cX9_step 1 (none : Option Jvm.ClassFile.FieldType) [.ref 3] (n, K, P, I, L) (none, (n, K, P, q, L)) := by
  refine MX_of (lv := [(0, .ref 3)]) (by decide +kernel) (Nat.le_of_ble_eq_true rfl) rfl ?_
  unfold mX9_step at hm
  refine X_aload_n 0 dX9_step_0 rfl rfl rfl ?_
  refine X_getI fl_X9_25 (g_K3 G) rfl dX9_step_1 ?_
  refine X_aload_n 0 dX9_step_4 rfl rfl rfl ?_
  refine X_getI fl_X9_21 (g_K3 G) rfl dX9_step_5 ?_
  refine X_iconst (v := (1 : Int32)) dX9_step_8 (by decide) ?_
  refine X_isub dX9_step_9 ?_
  refine X_icmp_ge (tgt := 23) dX9_step_10 (by decide) (fun c1 => ?_) (fun c1 => ?_)
  · replace hm := ip c1 hm
    replace hm := Option.some.inj hm
    subst hm
    exact X_vret dX9_step_23 rfl
  · replace hm := iq c1 hm
    refine X_aload_n 0 dX9_step_13 rfl rfl rfl ?_
    refine X_dup dX9_step_14 rfl ?_
    refine X_getI fl_X9_25 (g_K3 G) rfl dX9_step_15 ?_
    refine X_iconst (v := (1 : Int32)) dX9_step_18 (by decide) ?_
    refine X_iadd dX9_step_19 ?_
    refine X_putI fl_X9_25 (g_K3 G) rfl rfl dX9_step_20 ?_
    replace hm := Option.some.inj hm
    subst hm
    exact X_vret dX9_step_23 rfl
def mX9_number (I : Nat → Nat → Int32)  : Option (Int32) := (if (I 3 3) ≤ (I 3 4) then (some (-1 : Int32)) else (if inb (I 3 4) 401 = true then (some (I 6 (ix (I 3 4)))) else none))
set_option maxHeartbeats 400000 in
set_option maxRecDepth 100000 in
theorem kX9_number {E : xE} {B : Nat} {n : Nat} {K : Nat → Nat × Nat} {P : Nat → Nat → Nat} {I : Nat → Nat → Int32} {L : Nat → Nat → Int64}   {q : Int32} (d : Nat) (hd : 0 ≤ d) (G : GW K P)   (hm : mX9_number I = some q) : MX E B d 0 0 yX9_number cX9_number 1 (some .int) [.ref 3] (n, K, P, I, L) (some (.int q), (n, K, P, I, L)) := by
  refine MX_of (lv := [(0, .ref 3)]) (by decide +kernel) (Nat.le_of_ble_eq_true rfl) rfl ?_
  unfold mX9_number at hm
  refine X_aload_n 0 dX9_number_0 rfl rfl rfl ?_
  refine X_getI fl_X9_25 (g_K3 G) rfl dX9_number_1 ?_
  refine X_aload_n 0 dX9_number_4 rfl rfl rfl ?_
  refine X_getI fl_X9_21 (g_K3 G) rfl dX9_number_5 ?_
  refine X_icmp_ge (tgt := 23) dX9_number_8 (by decide) (fun c1 => ?_) (fun c1 => ?_)
  · replace hm := ip c1 hm
    refine X_iconst (v := (-1 : Int32)) dX9_number_23 (by decide) ?_
    replace hm := Option.some.inj hm
    subst hm
    exact X_iret dX9_number_24 rfl
  · replace hm := iq c1 hm
    refine X_aload_n 0 dX9_number_11 rfl rfl rfl ?_
    refine X_getPe fl_X9_18 (g_K3 G) rfl (g_P3_2 G) dX9_number_12 ?_
    refine X_aload_n 0 dX9_number_15 rfl rfl rfl ?_
    refine X_getI fl_X9_25 (g_K3 G) rfl dX9_number_16 ?_
    obtain ⟨g2, hm⟩ := og hm
    refine X_ialdJ (g_K6 G) g2 rfl dX9_number_19 ?_
    refine X_goto (tgt := 24) dX9_number_20 (by decide) ?_
    replace hm := Option.some.inj hm
    subst hm
    exact X_iret dX9_number_24 rfl
def mX4_emit  (I : Nat → Nat → Int32) (a1 : Int32) : Option ((Nat → Nat → Int32)) := (if (400 : Int32) ≤ (I 7 4) then (some I) else (if inb (I 7 4) 400 = true then (some (xu (xu I 8 (ix (I 7 4)) a1) 7 4 (((xu I 8 (ix (I 7 4)) a1) 7 4) + (1 : Int32)))) else none))
set_option maxHeartbeats 400000 in
set_option maxRecDepth 100000 in
theorem kX4_emit {E : xE} {B : Nat} {n : Nat} {K : Nat → Nat × Nat} {P : Nat → Nat → Nat} {I : Nat → Nat → Int32} {L : Nat → Nat → Int64}  {a1 : Int32} {q : (Nat → Nat → Int32)} (d : Nat) (hd : 0 ≤ d) (G : GW K P)   (hm : mX4_emit I a1 = some q) : MX E B d 0 0 yX4_emit cX4_emit 2 (none : Option Jvm.ClassFile.FieldType) [.ref 7, .int a1] (n, K, P, I, L) (none, (n, K, P, q, L)) := by
  refine MX_of (lv := [(0, .ref 7), (1, .int a1)]) (by decide +kernel) (Nat.le_of_ble_eq_true rfl) rfl ?_
  unfold mX4_emit at hm
  refine X_aload_n 0 dX4_emit_0 rfl rfl rfl ?_
  refine X_getI fl_X4_27 (g_K7 G) rfl dX4_emit_1 ?_
  refine X_sipush (v := (400 : Int32)) dX4_emit_4 (by decide) ?_
  refine X_icmp_ge (tgt := 30) dX4_emit_7 (by decide) (fun c1 => ?_) (fun c1 => ?_)
  · replace hm := ip c1 hm
    replace hm := Option.some.inj hm
    subst hm
    exact X_vret dX4_emit_30 rfl
  · replace hm := iq c1 hm
    refine X_aload_n 0 dX4_emit_10 rfl rfl rfl ?_
    refine X_getPe fl_X4_9 (g_K7 G) rfl (g_P7_1 G) dX4_emit_11 ?_
    refine X_aload_n 0 dX4_emit_14 rfl rfl rfl ?_
    refine X_getI fl_X4_27 (g_K7 G) rfl dX4_emit_15 ?_
    refine X_iload_n 1 dX4_emit_18 rfl rfl ?_
    obtain ⟨g2, hm⟩ := og hm
    refine X_iastJ (g_K8 G) g2 rfl dX4_emit_19 ?_
    refine X_aload_n 0 dX4_emit_20 rfl rfl rfl ?_
    refine X_dup dX4_emit_21 rfl ?_
    refine X_getI fl_X4_27 (g_K7 G) rfl dX4_emit_22 ?_
    refine X_iconst (v := (1 : Int32)) dX4_emit_25 (by decide) ?_
    refine X_iadd dX4_emit_26 ?_
    refine X_putI fl_X4_27 (g_K7 G) rfl rfl dX4_emit_27 ?_
    replace hm := Option.some.inj hm
    subst hm
    exact X_vret dX4_emit_30 rfl
def mX4_readValue_100  (I : Nat → Nat → Int32) (t0 : Int32) : Option (Int32 × (Nat → Nat → Int32)) := (Option.bind (mX4_emit I t0) (fun q9 => (Option.bind (mX9_step q9) (fun q11 => (some ((1 : Int32), q11))))))
set_option maxHeartbeats 400000 in
set_option maxRecDepth 100000 in
theorem kX4_readValue_100 {E : xE} {B : Nat} {n : Nat} {K : Nat → Nat × Nat} {P : Nat → Nat → Nat} {I : Nat → Nat → Int32} {L : Nat → Nat → Int64}   {t0 : Int32} {q : Int32 × (Nat → Nat → Int32)} (d : Nat) (hd : 1 ≤ d) (G : GW K P)    (hm : mX4_readValue_100 I t0 = some q) : X E B d 0 0 yX4_readValue cX4_readValue 3 (some .boolean) (some (.int q.1), (n, K, P, q.2, L)) 100 [(0, .ref 7)] [.int t0, .ref 7] 0 0 (n, K, P, I, L) := by
  obtain ⟨d, rfl⟩ : ∃ d0, d = d0 + 1 := ⟨d - 1, by omega⟩
  unfold mX4_readValue_100 at hm
  obtain ⟨q9, e10, hm⟩ := ob hm
  refine X_cV0 (ci := 3) (kX4_emit d (by omega) G e10) ml_X4_69 mi_X4_emit rfl cf_3 (g_K7 G) rfl rfl (Nat.le_refl _) ⟨Nat.le_refl _, Nat.le_refl _⟩ (Nat.le_of_ble_eq_true rfl) dX4_readValue_100 ?_
  refine X_aload_n 0 dX4_readValue_103 rfl rfl rfl ?_
  refine X_getPe fl_X4_21 (g_K7 G) rfl (g_P7_0 G) dX4_readValue_104 ?_
  obtain ⟨q11, e12, hm⟩ := ob hm
  refine X_cV0 (ci := 8) (kX9_step d (by omega) G e12) ml_X4_56 mi_X9_step rfl cf_8 (g_K3 G) rfl rfl (Nat.le_refl _) ⟨Nat.le_refl _, Nat.le_refl _⟩ (Nat.le_of_ble_eq_true rfl) dX4_readValue_107 ?_
  refine X_iconst (v := (1 : Int32)) dX4_readValue_110 (by decide) ?_
  replace hm := Option.some.inj hm
  subst hm
  exact X_zret (v := (1 : Int32)) dX4_readValue_111 rfl (x_nz (Or.inr rfl))
def mX4_readValue_57  (I : Nat → Nat → Int32) (a1 : Int32) (a2 : Int32) : Option (Int32 × (Nat → Nat → Int32)) := (if (I 7 6) < (60 : Int32) then (if a1 = (35 : Int32) then (mX4_readValue_100 (xu I 7 6 ((I 7 6) + (1 : Int32))) ((64 : Int32) + a2)) else (mX4_readValue_100 (xu I 7 6 ((I 7 6) + (1 : Int32))) a1)) else (Option.bind (mX9_fail I (3 : Int32)) (fun q13 => (if q13.1 = 0 ∨ q13.1 = 1 then (some (q13.1, q13.2)) else none))))
set_option maxHeartbeats 400000 in
set_option maxRecDepth 100000 in
theorem kX4_readValue_57 {E : xE} {B : Nat} {n : Nat} {K : Nat → Nat × Nat} {P : Nat → Nat → Nat} {I : Nat → Nat → Int32} {L : Nat → Nat → Int64}   {a1 : Int32} {a2 : Int32} {q : Int32 × (Nat → Nat → Int32)} (d : Nat) (hd : 1 ≤ d) (G : GW K P)    (hm : mX4_readValue_57 I a1 a2 = some q) : X E B d 0 0 yX4_readValue cX4_readValue 3 (some .boolean) (some (.int q.1), (n, K, P, q.2, L)) 57 [(0, .ref 7), (1, .int a1), (2, .int a2)] [] 0 0 (n, K, P, I, L) := by
  obtain ⟨d, rfl⟩ : ∃ d0, d = d0 + 1 := ⟨d - 1, by omega⟩
  unfold mX4_readValue_57 at hm
  refine X_aload_n 0 dX4_readValue_57 rfl rfl rfl ?_
  refine X_getI fl_X4_43 (g_K7 G) rfl dX4_readValue_58 ?_
  refine X_bipush (v := (60 : Int32)) dX4_readValue_61 (by decide) ?_
  refine X_icmp_lt (tgt := 75) dX4_readValue_63 (by decide) (fun c7 => ?_) (fun c7 => ?_)
  · replace hm := ip c7 hm
    refine X_aload_n 0 dX4_readValue_75 rfl rfl rfl ?_
    refine X_dup dX4_readValue_76 rfl ?_
    refine X_getI fl_X4_43 (g_K7 G) rfl dX4_readValue_77 ?_
    refine X_iconst (v := (1 : Int32)) dX4_readValue_80 (by decide) ?_
    refine X_iadd dX4_readValue_81 ?_
    refine X_putI fl_X4_43 (g_K7 G) rfl rfl dX4_readValue_82 ?_
    refine X_aload_n 0 dX4_readValue_85 rfl rfl rfl ?_
    refine X_iload_n 1 dX4_readValue_86 rfl rfl ?_
    refine X_bipush (v := (35 : Int32)) dX4_readValue_87 (by decide) ?_
    refine X_icmp_ne (tgt := 99) dX4_readValue_89 (by decide) (fun c8 => ?_) (fun c8 => ?_)
    · replace hm := iq c8 hm
      refine X_iload_n 1 dX4_readValue_99 rfl rfl ?_
      exact X_lv [0] rfl (kX4_readValue_100 _ hd G hm)
    · replace hm := ip c8 hm
      refine X_bipush (v := (64 : Int32)) dX4_readValue_92 (by decide) ?_
      refine X_iload_n 2 dX4_readValue_94 rfl rfl ?_
      refine X_iadd dX4_readValue_95 ?_
      refine X_goto (tgt := 100) dX4_readValue_96 (by decide) ?_
      exact X_lv [0] rfl (kX4_readValue_100 _ hd G hm)
  · replace hm := iq c7 hm
    refine X_aload_n 0 dX4_readValue_66 rfl rfl rfl ?_
    refine X_getPe fl_X4_21 (g_K7 G) rfl (g_P7_0 G) dX4_readValue_67 ?_
    refine X_iconst (v := (3 : Int32)) dX4_readValue_70 (by decide) ?_
    obtain ⟨q13, e14, hm⟩ := ob hm
    refine X_cV1 (ci := 8) (kX9_fail d (by omega) G e14) ml_X4_52 mi_X9_fail rfl cf_8 (g_K3 G) rfl rfl (Nat.le_refl _) ⟨Nat.le_refl _, Nat.le_refl _⟩ (Nat.le_of_ble_eq_true rfl) dX4_readValue_71 ?_
    obtain ⟨g15, hm⟩ := og hm
    replace hm := Option.some.inj hm
    subst hm
    exact X_zret dX4_readValue_74 rfl (x_nz g15)
def mX4_readValue_37  (I : Nat → Nat → Int32) (a1 : Int32) (a2 : Int32) : Option (Int32 × (Nat → Nat → Int32)) := (if a1 = (35 : Int32) then (if a2 = (-1 : Int32) then (Option.bind (mX9_fail I (1 : Int32)) (fun q17 => (if q17.1 = 0 ∨ q17.1 = 1 then (some (q17.1, q17.2)) else none))) else (mX4_readValue_57 I a1 a2)) else (mX4_readValue_57 I a1 a2))
set_option maxHeartbeats 400000 in
set_option maxRecDepth 100000 in
theorem kX4_readValue_37 {E : xE} {B : Nat} {n : Nat} {K : Nat → Nat × Nat} {P : Nat → Nat → Nat} {I : Nat → Nat → Int32} {L : Nat → Nat → Int64}   {a1 : Int32} {a2 : Int32} {q : Int32 × (Nat → Nat → Int32)} (d : Nat) (hd : 1 ≤ d) (G : GW K P)    (hm : mX4_readValue_37 I a1 a2 = some q) : X E B d 0 0 yX4_readValue cX4_readValue 3 (some .boolean) (some (.int q.1), (n, K, P, q.2, L)) 37 [(0, .ref 7), (1, .int a1), (2, .int a2)] [] 0 0 (n, K, P, I, L) := by
  obtain ⟨d, rfl⟩ : ∃ d0, d = d0 + 1 := ⟨d - 1, by omega⟩
  unfold mX4_readValue_37 at hm
  refine X_iload_n 1 dX4_readValue_37 rfl rfl ?_
  refine X_bipush (v := (35 : Int32)) dX4_readValue_38 (by decide) ?_
  refine X_icmp_ne (tgt := 57) dX4_readValue_40 (by decide) (fun c6 => ?_) (fun c6 => ?_)
  · replace hm := iq c6 hm
    exact kX4_readValue_57 _ hd G hm
  · replace hm := ip c6 hm
    refine X_iload_n 2 dX4_readValue_43 rfl rfl ?_
    refine X_iconst (v := (-1 : Int32)) dX4_readValue_44 (by decide) ?_
    refine X_icmp_ne (tgt := 57) dX4_readValue_45 (by decide) (fun c16 => ?_) (fun c16 => ?_)
    · replace hm := iq c16 hm
      exact kX4_readValue_57 _ hd G hm
    · replace hm := ip c16 hm
      refine X_aload_n 0 dX4_readValue_48 rfl rfl rfl ?_
      refine X_getPe fl_X4_21 (g_K7 G) rfl (g_P7_0 G) dX4_readValue_49 ?_
      refine X_iconst (v := (1 : Int32)) dX4_readValue_52 (by decide) ?_
      obtain ⟨q17, e18, hm⟩ := ob hm
      refine X_cV1 (ci := 8) (kX9_fail d (by omega) G e18) ml_X4_52 mi_X9_fail rfl cf_8 (g_K3 G) rfl rfl (Nat.le_refl _) ⟨Nat.le_refl _, Nat.le_refl _⟩ (Nat.le_of_ble_eq_true rfl) dX4_readValue_53 ?_
      obtain ⟨g19, hm⟩ := og hm
      replace hm := Option.some.inj hm
      subst hm
      exact X_zret dX4_readValue_56 rfl (x_nz g19)
def mX4_readValue  (I : Nat → Nat → Int32) : Option (Int32 × (Nat → Nat → Int32)) := (Option.bind (mX9_kind I) (fun q1 => (Option.bind (mX9_number I) (fun q3 => (if q1 = (35 : Int32) then (mX4_readValue_37 I q1 q3) else (if q1 < (13 : Int32) then (mX4_readValue_37 I q1 q3) else (Option.bind (mX9_fail I (0 : Int32)) (fun q21 => (if q21.1 = 0 ∨ q21.1 = 1 then (some (q21.1, q21.2)) else none)))))))))
set_option maxHeartbeats 400000 in
set_option maxRecDepth 100000 in
theorem kX4_readValue {E : xE} {B : Nat} {n : Nat} {K : Nat → Nat × Nat} {P : Nat → Nat → Nat} {I : Nat → Nat → Int32} {L : Nat → Nat → Int64}   {q : Int32 × (Nat → Nat → Int32)} (d : Nat) (hd : 1 ≤ d) (G : GW K P)   (hm : mX4_readValue I = some q) : MX E B d 0 0 yX4_readValue cX4_readValue 3 (some .boolean) [.ref 7] (n, K, P, I, L) (some (.int q.1), (n, K, P, q.2, L)) := by
  refine MX_of (lv := [(0, .ref 7)]) (by decide +kernel) (Nat.le_of_ble_eq_true rfl) rfl ?_
  obtain ⟨d, rfl⟩ : ∃ d0, d = d0 + 1 := ⟨d - 1, by omega⟩
  unfold mX4_readValue at hm
  refine X_aload_n 0 dX4_readValue_0 rfl rfl rfl ?_
  refine X_getPe fl_X4_21 (g_K7 G) rfl (g_P7_0 G) dX4_readValue_1 ?_
  obtain ⟨q1, e2, hm⟩ := ob hm
  refine X_cV1 (ci := 8) (kX9_kind d (by omega) G e2) ml_X4_46 mi_X9_kind rfl cf_8 (g_K3 G) rfl rfl (Nat.le_refl _) ⟨Nat.le_refl _, Nat.le_refl _⟩ (Nat.le_of_ble_eq_true rfl) dX4_readValue_4 ?_
  refine X_istore_n (lv' := [(1, .int q1), (0, .ref 7)]) dX4_readValue_7 rfl (by decide) rfl ?_
  refine X_aload_n 1 dX4_readValue_8 rfl rfl rfl ?_
  refine X_getPe fl_X4_21 (g_K7 G) rfl (g_P7_0 G) dX4_readValue_9 ?_
  obtain ⟨q3, e4, hm⟩ := ob hm
  refine X_cV1 (ci := 8) (kX9_number d (by omega) G e4) ml_X4_94 mi_X9_number rfl cf_8 (g_K3 G) rfl rfl (Nat.le_refl _) ⟨Nat.le_refl _, Nat.le_refl _⟩ (Nat.le_of_ble_eq_true rfl) dX4_readValue_12 ?_
  refine X_istore_n (lv' := [(2, .int q3), (1, .int q1), (0, .ref 7)]) dX4_readValue_15 rfl (by decide) rfl ?_
  refine X_iload_n 1 dX4_readValue_16 rfl rfl ?_
  refine X_bipush (v := (35 : Int32)) dX4_readValue_17 (by decide) ?_
  refine X_icmp_eq (tgt := 37) dX4_readValue_19 (by decide) (fun c5 => ?_) (fun c5 => ?_)
  · replace hm := ip c5 hm
    exact X_lv [2, 1, 0] rfl (kX4_readValue_37 _ hd G hm)
  · replace hm := iq c5 hm
    refine X_iload_n 1 dX4_readValue_22 rfl rfl ?_
    refine X_bipush (v := (13 : Int32)) dX4_readValue_23 (by decide) ?_
    refine X_icmp_lt (tgt := 37) dX4_readValue_25 (by decide) (fun c20 => ?_) (fun c20 => ?_)
    · replace hm := ip c20 hm
      exact X_lv [2, 1, 0] rfl (kX4_readValue_37 _ hd G hm)
    · replace hm := iq c20 hm
      refine X_aload_n 2 dX4_readValue_28 rfl rfl rfl ?_
      refine X_getPe fl_X4_21 (g_K7 G) rfl (g_P7_0 G) dX4_readValue_29 ?_
      refine X_iconst (v := (0 : Int32)) dX4_readValue_32 (by decide) ?_
      obtain ⟨q21, e22, hm⟩ := ob hm
      refine X_cV1 (ci := 8) (kX9_fail d (by omega) G e22) ml_X4_52 mi_X9_fail rfl cf_8 (g_K3 G) rfl rfl (Nat.le_refl _) ⟨Nat.le_refl _, Nat.le_refl _⟩ (Nat.le_of_ble_eq_true rfl) dX4_readValue_33 ?_
      obtain ⟨g23, hm⟩ := og hm
      replace hm := Option.some.inj hm
      subst hm
      exact X_zret dX4_readValue_36 rfl (x_nz g23)
def mX4_multiplies  (a0 : Int32) : Option (Int32) := (if a0 = (24 : Int32) then (some (1 : Int32)) else (if a0 = (25 : Int32) then (some (1 : Int32)) else (if a0 = (26 : Int32) then (some (1 : Int32)) else (some (0 : Int32)))))
set_option maxHeartbeats 400000 in
set_option maxRecDepth 100000 in
theorem kX4_multiplies {E : xE} {B : Nat} {n : Nat} {K : Nat → Nat × Nat} {P : Nat → Nat → Nat} {I : Nat → Nat → Int32} {L : Nat → Nat → Int64}  {a0 : Int32} {q : Int32} (d : Nat) (hd : 0 ≤ d) (G : GW K P)   (hm : mX4_multiplies a0 = some q) : MX E B d 0 0 yX4_multiplies cX4_multiplies 1 (some .boolean) [.int a0] (n, K, P, I, L) (some (.int q), (n, K, P, I, L)) := by
  refine MX_of (lv := [(0, .int a0)]) (by decide +kernel) (Nat.le_of_ble_eq_true rfl) rfl ?_
  unfold mX4_multiplies at hm
  refine X_iload_n 0 dX4_multiplies_0 rfl rfl ?_
  refine X_bipush (v := (24 : Int32)) dX4_multiplies_1 (by decide) ?_
  refine X_icmp_eq (tgt := 18) dX4_multiplies_3 (by decide) (fun c1 => ?_) (fun c1 => ?_)
  · replace hm := ip c1 hm
    refine X_iconst (v := (1 : Int32)) dX4_multiplies_18 (by decide) ?_
    refine X_goto (tgt := 23) dX4_multiplies_19 (by decide) ?_
    replace hm := Option.some.inj hm
    subst hm
    exact X_zret (v := (1 : Int32)) dX4_multiplies_23 rfl (x_nz (Or.inr rfl))
  · replace hm := iq c1 hm
    refine X_iload_n 0 dX4_multiplies_6 rfl rfl ?_
    refine X_bipush (v := (25 : Int32)) dX4_multiplies_7 (by decide) ?_
    refine X_icmp_eq (tgt := 18) dX4_multiplies_9 (by decide) (fun c2 => ?_) (fun c2 => ?_)
    · replace hm := ip c2 hm
      refine X_iconst (v := (1 : Int32)) dX4_multiplies_18 (by decide) ?_
      refine X_goto (tgt := 23) dX4_multiplies_19 (by decide) ?_
      replace hm := Option.some.inj hm
      subst hm
      exact X_zret (v := (1 : Int32)) dX4_multiplies_23 rfl (x_nz (Or.inr rfl))
    · replace hm := iq c2 hm
      refine X_iload_n 0 dX4_multiplies_12 rfl rfl ?_
      refine X_bipush (v := (26 : Int32)) dX4_multiplies_13 (by decide) ?_
      refine X_icmp_ne (tgt := 22) dX4_multiplies_15 (by decide) (fun c3 => ?_) (fun c3 => ?_)
      · replace hm := iq c3 hm
        refine X_iconst (v := (0 : Int32)) dX4_multiplies_22 (by decide) ?_
        replace hm := Option.some.inj hm
        subst hm
        exact X_zret (v := (0 : Int32)) dX4_multiplies_23 rfl (x_nz (Or.inl rfl))
      · replace hm := ip c3 hm
        refine X_iconst (v := (1 : Int32)) dX4_multiplies_18 (by decide) ?_
        refine X_goto (tgt := 23) dX4_multiplies_19 (by decide) ?_
        replace hm := Option.some.inj hm
        subst hm
        exact X_zret (v := (1 : Int32)) dX4_multiplies_23 rfl (x_nz (Or.inr rfl))
def mX4_adds  (a0 : Int32) : Option (Int32) := (if a0 = (22 : Int32) then (some (1 : Int32)) else (if a0 = (23 : Int32) then (some (1 : Int32)) else (some (0 : Int32))))
set_option maxHeartbeats 400000 in
set_option maxRecDepth 100000 in
theorem kX4_adds {E : xE} {B : Nat} {n : Nat} {K : Nat → Nat × Nat} {P : Nat → Nat → Nat} {I : Nat → Nat → Int32} {L : Nat → Nat → Int64}  {a0 : Int32} {q : Int32} (d : Nat) (hd : 0 ≤ d) (G : GW K P)   (hm : mX4_adds a0 = some q) : MX E B d 0 0 yX4_adds cX4_adds 1 (some .boolean) [.int a0] (n, K, P, I, L) (some (.int q), (n, K, P, I, L)) := by
  refine MX_of (lv := [(0, .int a0)]) (by decide +kernel) (Nat.le_of_ble_eq_true rfl) rfl ?_
  unfold mX4_adds at hm
  refine X_iload_n 0 dX4_adds_0 rfl rfl ?_
  refine X_bipush (v := (22 : Int32)) dX4_adds_1 (by decide) ?_
  refine X_icmp_eq (tgt := 12) dX4_adds_3 (by decide) (fun c1 => ?_) (fun c1 => ?_)
  · replace hm := ip c1 hm
    refine X_iconst (v := (1 : Int32)) dX4_adds_12 (by decide) ?_
    refine X_goto (tgt := 17) dX4_adds_13 (by decide) ?_
    replace hm := Option.some.inj hm
    subst hm
    exact X_zret (v := (1 : Int32)) dX4_adds_17 rfl (x_nz (Or.inr rfl))
  · replace hm := iq c1 hm
    refine X_iload_n 0 dX4_adds_6 rfl rfl ?_
    refine X_bipush (v := (23 : Int32)) dX4_adds_7 (by decide) ?_
    refine X_icmp_ne (tgt := 16) dX4_adds_9 (by decide) (fun c2 => ?_) (fun c2 => ?_)
    · replace hm := iq c2 hm
      refine X_iconst (v := (0 : Int32)) dX4_adds_16 (by decide) ?_
      replace hm := Option.some.inj hm
      subst hm
      exact X_zret (v := (0 : Int32)) dX4_adds_17 rfl (x_nz (Or.inl rfl))
    · replace hm := ip c2 hm
      refine X_iconst (v := (1 : Int32)) dX4_adds_12 (by decide) ?_
      refine X_goto (tgt := 17) dX4_adds_13 (by decide) ?_
      replace hm := Option.some.inj hm
      subst hm
      exact X_zret (v := (1 : Int32)) dX4_adds_17 rfl (x_nz (Or.inr rfl))
def mX4_readSum_70 (b6 : (Nat → Nat → Int32) → Int32 → Int32 → Int32 → Option (Int32 × (Nat → Nat → Int32))) (I : Nat → Nat → Int32) (a1 : Int32) (a2 : Int32) (a3 : Int32) : Option (Int32 × (Nat → Nat → Int32)) := (Option.bind (mX9_step I) (fun q13 => (b6 q13 a1 a2 (a3 + 1))))
set_option maxHeartbeats 400000 in
set_option maxRecDepth 100000 in
theorem kX4_readSum_70 {E : xE} {B : Nat} {n : Nat} {K : Nat → Nat × Nat} {P : Nat → Nat → Nat} {I : Nat → Nat → Int32} {L : Nat → Nat → Int64}  {b6 : (Nat → Nat → Int32) → Int32 → Int32 → Int32 → Option (Int32 × (Nat → Nat → Int32))} {a1 : Int32} {a2 : Int32} {a3 : Int32} {q : Int32 × (Nat → Nat → Int32)} (d : Nat) (hd : 2 ≤ d) (G : GW K P)  (hb6 : ∀ (I : Nat → Nat → Int32) (a1 : Int32) (a2 : Int32) (a3 : Int32), b6 I a1 a2 a3 = some q → X E B d 0 0 yX4_readSum cX4_readSum 4 (some .boolean) (some (.int q.1), (n, K, P, q.2, L)) 6 [(0, .ref 7), (1, .int a1), (2, .int a2), (3, .int a3)] [] 0 0 (n, K, P, I, L))  (hm : mX4_readSum_70 b6 I a1 a2 a3 = some q) : X E B d 0 0 yX4_readSum cX4_readSum 4 (some .boolean) (some (.int q.1), (n, K, P, q.2, L)) 70 [(0, .ref 7), (1, .int a1), (2, .int a2), (3, .int a3)] [] 0 0 (n, K, P, I, L) := by
  obtain ⟨d, rfl⟩ : ∃ d0, d = d0 + 1 := ⟨d - 1, by omega⟩
  unfold mX4_readSum_70 at hm
  refine X_aload_n 0 dX4_readSum_70 rfl rfl rfl ?_
  refine X_getPe fl_X4_21 (g_K7 G) rfl (g_P7_0 G) dX4_readSum_71 ?_
  obtain ⟨q13, e14, hm⟩ := ob hm
  refine X_cV0 (ci := 8) (kX9_step d (by omega) G e14) ml_X4_56 mi_X9_step rfl cf_8 (g_K3 G) rfl rfl (Nat.le_refl _) ⟨Nat.le_refl _, Nat.le_refl _⟩ (Nat.le_of_ble_eq_true rfl) dX4_readSum_74 ?_
  refine X_iinc (lv' := [(3, .int (a3 + 1)), (0, .ref 7), (1, .int a1), (2, .int a2)]) 3 dX4_readSum_77 rfl rfl (by decide) rfl ?_
  refine X_goto (tgt := 6) dX4_readSum_80 (by decide) ?_
  exact X_lv [1, 2, 3, 0] rfl (hb6 _ _ _ _ hm)
def mX4_readSum_59 (b6 : (Nat → Nat → Int32) → Int32 → Int32 → Int32 → Option (Int32 × (Nat → Nat → Int32))) (I : Nat → Nat → Int32) (a2 : Int32) (a3 : Int32) : Option (Int32 × (Nat → Nat → Int32)) := (Option.bind (mX4_adds a2) (fun q16 => (if q16 = 0 then (some ((1 : Int32), I)) else (mX4_readSum_70 b6 I a2 a2 a3))))
set_option maxHeartbeats 400000 in
set_option maxRecDepth 100000 in
theorem kX4_readSum_59 {E : xE} {B : Nat} {n : Nat} {K : Nat → Nat × Nat} {P : Nat → Nat → Nat} {I : Nat → Nat → Int32} {L : Nat → Nat → Int64}  {b6 : (Nat → Nat → Int32) → Int32 → Int32 → Int32 → Option (Int32 × (Nat → Nat → Int32))} {a2 : Int32} {a3 : Int32} {q : Int32 × (Nat → Nat → Int32)} (d : Nat) (hd : 2 ≤ d) (G : GW K P)  (hb6 : ∀ (I : Nat → Nat → Int32) (a1 : Int32) (a2 : Int32) (a3 : Int32), b6 I a1 a2 a3 = some q → X E B d 0 0 yX4_readSum cX4_readSum 4 (some .boolean) (some (.int q.1), (n, K, P, q.2, L)) 6 [(0, .ref 7), (1, .int a1), (2, .int a2), (3, .int a3)] [] 0 0 (n, K, P, I, L))  (hm : mX4_readSum_59 b6 I a2 a3 = some q) : X E B d 0 0 yX4_readSum cX4_readSum 4 (some .boolean) (some (.int q.1), (n, K, P, q.2, L)) 59 [(0, .ref 7), (2, .int a2), (3, .int a3)] [] 0 0 (n, K, P, I, L) := by
  obtain ⟨d, rfl⟩ : ∃ d0, d = d0 + 1 := ⟨d - 1, by omega⟩
  unfold mX4_readSum_59 at hm
  refine X_iload_n 1 dX4_readSum_59 rfl rfl ?_
  obtain ⟨q16, e17, hm⟩ := ob hm
  refine X_cS1 (kX4_adds d (by omega) G e17) ml_X4_91 ms_X4_adds rfl rfl (Nat.le_refl _) ⟨Nat.le_refl _, Nat.le_refl _⟩ (Nat.le_of_ble_eq_true rfl) dX4_readSum_60 ?_
  refine X_if_ne (tgt := 68) dX4_readSum_63 (by decide) (fun c18 => ?_) (fun c18 => ?_)
  · replace hm := iq c18 hm
    refine X_iload_n 1 dX4_readSum_68 rfl rfl ?_
    refine X_istore_n (lv' := [(1, .int a2), (0, .ref 7), (2, .int a2), (3, .int a3)]) dX4_readSum_69 rfl (by decide) rfl ?_
    exact X_lv [1, 0, 2, 3] rfl (kX4_readSum_70 _ hd G hb6 hm)
  · replace hm := ip c18 hm
    refine X_iconst (v := (1 : Int32)) dX4_readSum_66 (by decide) ?_
    replace hm := Option.some.inj hm
    subst hm
    exact X_zret (v := (1 : Int32)) dX4_readSum_67 rfl (x_nz (Or.inr rfl))
def mX4_readSum_34 (b6 : (Nat → Nat → Int32) → Int32 → Int32 → Int32 → Option (Int32 × (Nat → Nat → Int32))) (I : Nat → Nat → Int32) (a1 : Int32) (a3 : Int32) : Option (Int32 × (Nat → Nat → Int32)) := (Option.bind (mX9_kind I) (fun q8 => (Option.bind (mX4_multiplies q8) (fun q10 => (if q10 = 0 then (if a1 = (-1 : Int32) then (mX4_readSum_59 b6 I q8 a3) else (Option.bind (mX4_emit I a1) (fun q19 => (mX4_readSum_59 b6 q19 q8 a3)))) else (mX4_readSum_70 b6 I a1 q8 a3))))))
set_option maxHeartbeats 400000 in
set_option maxRecDepth 100000 in
theorem kX4_readSum_34 {E : xE} {B : Nat} {n : Nat} {K : Nat → Nat × Nat} {P : Nat → Nat → Nat} {I : Nat → Nat → Int32} {L : Nat → Nat → Int64}  {b6 : (Nat → Nat → Int32) → Int32 → Int32 → Int32 → Option (Int32 × (Nat → Nat → Int32))} {a1 : Int32} {a3 : Int32} {q : Int32 × (Nat → Nat → Int32)} (d : Nat) (hd : 2 ≤ d) (G : GW K P)  (hb6 : ∀ (I : Nat → Nat → Int32) (a1 : Int32) (a2 : Int32) (a3 : Int32), b6 I a1 a2 a3 = some q → X E B d 0 0 yX4_readSum cX4_readSum 4 (some .boolean) (some (.int q.1), (n, K, P, q.2, L)) 6 [(0, .ref 7), (1, .int a1), (2, .int a2), (3, .int a3)] [] 0 0 (n, K, P, I, L))  (hm : mX4_readSum_34 b6 I a1 a3 = some q) : X E B d 0 0 yX4_readSum cX4_readSum 4 (some .boolean) (some (.int q.1), (n, K, P, q.2, L)) 34 [(0, .ref 7), (1, .int a1), (3, .int a3)] [] 0 0 (n, K, P, I, L) := by
  obtain ⟨d, rfl⟩ : ∃ d0, d = d0 + 1 := ⟨d - 1, by omega⟩
  unfold mX4_readSum_34 at hm
  refine X_aload_n 0 dX4_readSum_34 rfl rfl rfl ?_
  refine X_getPe fl_X4_21 (g_K7 G) rfl (g_P7_0 G) dX4_readSum_35 ?_
  obtain ⟨q8, e9, hm⟩ := ob hm
  refine X_cV1 (ci := 8) (kX9_kind d (by omega) G e9) ml_X4_46 mi_X9_kind rfl cf_8 (g_K3 G) rfl rfl (Nat.le_refl _) ⟨Nat.le_refl _, Nat.le_refl _⟩ (Nat.le_of_ble_eq_true rfl) dX4_readSum_38 ?_
  refine X_istore_n (lv' := [(2, .int q8), (0, .ref 7), (1, .int a1), (3, .int a3)]) dX4_readSum_41 rfl (by decide) rfl ?_
  refine X_iload_n 0 dX4_readSum_42 rfl rfl ?_
  obtain ⟨q10, e11, hm⟩ := ob hm
  refine X_cS1 (kX4_multiplies d (by omega) G e11) ml_X4_88 ms_X4_multiplies rfl rfl (Nat.le_refl _) ⟨Nat.le_refl _, Nat.le_refl _⟩ (Nat.le_of_ble_eq_true rfl) dX4_readSum_43 ?_
  refine X_if_ne (tgt := 70) dX4_readSum_46 (by decide) (fun c12 => ?_) (fun c12 => ?_)
  · replace hm := iq c12 hm
    exact X_lv [1, 2, 0, 3] rfl (kX4_readSum_70 _ hd G hb6 hm)
  · replace hm := ip c12 hm
    refine X_iload_n 2 dX4_readSum_49 rfl rfl ?_
    refine X_iconst (v := (-1 : Int32)) dX4_readSum_50 (by decide) ?_
    refine X_icmp_eq (tgt := 59) dX4_readSum_51 (by decide) (fun c15 => ?_) (fun c15 => ?_)
    · replace hm := ip c15 hm
      exact X_lv [1, 0, 3] rfl (kX4_readSum_59 _ hd G hb6 hm)
    · replace hm := iq c15 hm
      refine X_aload_n 1 dX4_readSum_54 rfl rfl rfl ?_
      refine X_iload_n 2 dX4_readSum_55 rfl rfl ?_
      obtain ⟨q19, e20, hm⟩ := ob hm
      refine X_cV0 (ci := 3) (kX4_emit d (by omega) G e20) ml_X4_69 mi_X4_emit rfl cf_3 (g_K7 G) rfl rfl (Nat.le_refl _) ⟨Nat.le_refl _, Nat.le_refl _⟩ (Nat.le_of_ble_eq_true rfl) dX4_readSum_56 ?_
      exact X_lv [1, 0, 3] rfl (kX4_readSum_59 _ hd G hb6 hm)
def mX4_readSum_6   : Nat → (Nat → Nat → Int32) → Int32 → Int32 → Int32 → Option (Int32 × (Nat → Nat → Int32))
  | 0, _, _, _, _ => none
  | f + 1, I, a1, a2, a3 => (if (400 : Int32) ≤ a3 then (some ((0 : Int32), I)) else (Option.bind (mX4_readValue I) (fun q2 => (if q2.1 = 0 then (some ((0 : Int32), q2.2)) else (Option.bind (mX4_multiplies a2) (fun q5 => (if q5 = 0 then (mX4_readSum_34 (fun (I : Nat → Nat → Int32) (a1 : Int32) (a2 : Int32) (a3 : Int32) => mX4_readSum_6  f I a1 a2 a3) q2.2 a1 a3) else (Option.bind (mX4_emit q2.2 a2) (fun q21 => (mX4_readSum_34 (fun (I : Nat → Nat → Int32) (a1 : Int32) (a2 : Int32) (a3 : Int32) => mX4_readSum_6  f I a1 a2 a3) q21 a1 a3))))))))))
set_option maxHeartbeats 400000 in
set_option maxRecDepth 100000 in
theorem kX4_readSum_6 {E : xE} {B : Nat} {n : Nat} {K : Nat → Nat × Nat} {P : Nat → Nat → Nat} {L : Nat → Nat → Int64}   {q : Int32 × (Nat → Nat → Int32)} (d : Nat) (hd : 2 ≤ d) (G : GW K P)   : ∀ (f : Nat) (I : Nat → Nat → Int32) (a1 : Int32) (a2 : Int32) (a3 : Int32), mX4_readSum_6 f I a1 a2 a3 = some q → X E B d 0 0 yX4_readSum cX4_readSum 4 (some .boolean) (some (.int q.1), (n, K, P, q.2, L)) 6 [(0, .ref 7), (1, .int a1), (2, .int a2), (3, .int a3)] [] 0 0 (n, K, P, I, L) := by
  obtain ⟨d, rfl⟩ : ∃ d0, d = d0 + 1 := ⟨d - 1, by omega⟩
  intro f
  induction f with
  | zero => intro _ _ _ _ hm; exact nomatch (show (none : Option (Int32 × (Nat → Nat → Int32))) = some q from hm)
  | succ f ih =>
    intro I a1 a2 a3 hm
    rw [mX4_readSum_6] at hm
    refine X_iload_n 3 dX4_readSum_6 rfl rfl ?_
    refine X_sipush (v := (400 : Int32)) dX4_readSum_7 (by decide) ?_
    refine X_icmp_ge (tgt := 83) dX4_readSum_10 (by decide) (fun c1 => ?_) (fun c1 => ?_)
    · replace hm := ip c1 hm
      refine X_iconst (v := (0 : Int32)) dX4_readSum_83 (by decide) ?_
      replace hm := Option.some.inj hm
      subst hm
      exact X_zret (v := (0 : Int32)) dX4_readSum_84 rfl (x_nz (Or.inl rfl))
    · replace hm := iq c1 hm
      refine X_aload_n 0 dX4_readSum_13 rfl rfl rfl ?_
      obtain ⟨q2, e3, hm⟩ := ob hm
      refine X_cV1 (ci := 3) (kX4_readValue d (by omega) G e3) ml_X4_85 mi_X4_readValue rfl cf_3 (g_K7 G) rfl rfl (Nat.le_refl _) ⟨Nat.le_refl _, Nat.le_refl _⟩ (Nat.le_of_ble_eq_true rfl) dX4_readSum_14 ?_
      refine X_if_ne (tgt := 22) dX4_readSum_17 (by decide) (fun c4 => ?_) (fun c4 => ?_)
      · replace hm := iq c4 hm
        refine X_iload_n 2 dX4_readSum_22 rfl rfl ?_
        obtain ⟨q5, e6, hm⟩ := ob hm
        refine X_cS1 (kX4_multiplies d (by omega) G e6) ml_X4_88 ms_X4_multiplies rfl rfl (Nat.le_refl _) ⟨Nat.le_refl _, Nat.le_refl _⟩ (Nat.le_of_ble_eq_true rfl) dX4_readSum_23 ?_
        refine X_if_eq (tgt := 34) dX4_readSum_26 (by decide) (fun c7 => ?_) (fun c7 => ?_)
        · replace hm := ip c7 hm
          exact X_lv [0, 1, 3] rfl (kX4_readSum_34 _ hd G ih hm)
        · replace hm := iq c7 hm
          refine X_aload_n 0 dX4_readSum_29 rfl rfl rfl ?_
          refine X_iload_n 2 dX4_readSum_30 rfl rfl ?_
          obtain ⟨q21, e22, hm⟩ := ob hm
          refine X_cV0 (ci := 3) (kX4_emit d (by omega) G e22) ml_X4_69 mi_X4_emit rfl cf_3 (g_K7 G) rfl rfl (Nat.le_refl _) ⟨Nat.le_refl _, Nat.le_refl _⟩ (Nat.le_of_ble_eq_true rfl) dX4_readSum_31 ?_
          exact X_lv [0, 1, 3] rfl (kX4_readSum_34 _ hd G ih hm)
      · replace hm := ip c4 hm
        refine X_iconst (v := (0 : Int32)) dX4_readSum_20 (by decide) ?_
        replace hm := Option.some.inj hm
        subst hm
        exact X_zret (v := (0 : Int32)) dX4_readSum_21 rfl (x_nz (Or.inl rfl))
def mX4_readSum  (I : Nat → Nat → Int32) : Option (Int32 × (Nat → Nat → Int32)) := (mX4_readSum_6 xf I (-1 : Int32) (-1 : Int32) (0 : Int32))
set_option maxHeartbeats 400000 in
set_option maxRecDepth 100000 in
theorem kX4_readSum {E : xE} {B : Nat} {n : Nat} {K : Nat → Nat × Nat} {P : Nat → Nat → Nat} {I : Nat → Nat → Int32} {L : Nat → Nat → Int64}   {q : Int32 × (Nat → Nat → Int32)} (d : Nat) (hd : 2 ≤ d) (G : GW K P)   (hm : mX4_readSum I = some q) : MX E B d 0 0 yX4_readSum cX4_readSum 4 (some .boolean) [.ref 7] (n, K, P, I, L) (some (.int q.1), (n, K, P, q.2, L)) := by
  refine MX_of (lv := [(0, .ref 7)]) (by decide +kernel) (Nat.le_of_ble_eq_true rfl) rfl ?_
  obtain ⟨d, rfl⟩ : ∃ d0, d = d0 + 1 := ⟨d - 1, by omega⟩
  unfold mX4_readSum at hm
  refine X_iconst (v := (-1 : Int32)) dX4_readSum_0 (by decide) ?_
  refine X_istore_n (lv' := [(1, .int (-1 : Int32)), (0, .ref 7)]) dX4_readSum_1 rfl (by decide) rfl ?_
  refine X_iconst (v := (-1 : Int32)) dX4_readSum_2 (by decide) ?_
  refine X_istore_n (lv' := [(2, .int (-1 : Int32)), (1, .int (-1 : Int32)), (0, .ref 7)]) dX4_readSum_3 rfl (by decide) rfl ?_
  refine X_iconst (v := (0 : Int32)) dX4_readSum_4 (by decide) ?_
  refine X_istore_n (lv' := [(3, .int (0 : Int32)), (2, .int (-1 : Int32)), (1, .int (-1 : Int32)), (0, .ref 7)]) dX4_readSum_5 rfl (by decide) rfl ?_
  refine X_lv [3, 2, 1, 0] rfl (kX4_readSum_6 _ hd G xf _ _ _ _  hm)
def mX4_readDenied (r_X4_readFact : (Nat → Nat → Int32) → Int32 → Option (Int32 × (Nat → Nat → Int32))) (I : Nat → Nat → Int32) (a1 : Int32) : Option (Int32 × (Nat → Nat → Int32)) := (Option.bind (r_X4_readFact I a1) (fun q1 => (Option.bind (mX4_emit q1.2 (21 : Int32)) (fun q3 => (if q1.1 = 0 ∨ q1.1 = 1 then (some (q1.1, q3)) else none)))))
set_option maxHeartbeats 400000 in
set_option maxRecDepth 100000 in
theorem kX4_readDenied {E : xE} {B : Nat} {n : Nat} {K : Nat → Nat × Nat} {P : Nat → Nat → Nat} {I : Nat → Nat → Int32} {L : Nat → Nat → Int64} {r_X4_readFact : (Nat → Nat → Int32) → Int32 → Option (Int32 × (Nat → Nat → Int32))} {a1 : Int32} {q : Int32 × (Nat → Nat → Int32)} (d : Nat) (hd : 1 ≤ d) (G : GW K P) (dr : Nat) (hdr : 1 + dr ≤ d) (hr_X4_readFact : ∀ {n : Nat} {L : Nat → Nat → Int64} {I : Nat → Nat → Int32} {a1 : Int32} {q : Int32 × (Nat → Nat → Int32)}, GW K P → r_X4_readFact I a1 = some q → MX E B dr 0 0 yX4_readFact cX4_readFact 5 (some .boolean) [.ref 7, .int a1] (n, K, P, I, L) (some (.int q.1), (n, K, P, q.2, L)))  (hm : mX4_readDenied r_X4_readFact I a1 = some q) : MX E B d 0 0 yX4_readDenied cX4_readDenied 3 (some .boolean) [.ref 7, .int a1] (n, K, P, I, L) (some (.int q.1), (n, K, P, q.2, L)) := by
  refine MX_of (lv := [(0, .ref 7), (1, .int a1)]) (by decide +kernel) (Nat.le_of_ble_eq_true rfl) rfl ?_
  obtain ⟨d, rfl⟩ : ∃ d0, d = d0 + 1 := ⟨d - 1, by omega⟩
  unfold mX4_readDenied at hm
  refine X_aload_n 0 dX4_readDenied_0 rfl rfl rfl ?_
  refine X_iload_n 1 dX4_readDenied_1 rfl rfl ?_
  obtain ⟨q1, e2, hm⟩ := ob hm
  refine X_cV1 (ci := 3) (hr_X4_readFact G e2) ml_X4_73 mi_X4_readFact rfl cf_3 (g_K7 G) rfl rfl (by omega) ⟨Nat.le_refl _, Nat.le_refl _⟩ (Nat.le_of_ble_eq_true rfl) dX4_readDenied_2 ?_
  refine X_istore_n (lv' := [(2, .int q1.1), (0, .ref 7), (1, .int a1)]) dX4_readDenied_5 rfl (by decide) rfl ?_
  refine X_aload_n 1 dX4_readDenied_6 rfl rfl rfl ?_
  refine X_bipush (v := (21 : Int32)) dX4_readDenied_7 (by decide) ?_
  obtain ⟨q3, e4, hm⟩ := ob hm
  refine X_cV0 (ci := 3) (kX4_emit d (by omega) G e4) ml_X4_69 mi_X4_emit rfl cf_3 (g_K7 G) rfl rfl (Nat.le_refl _) ⟨Nat.le_refl _, Nat.le_refl _⟩ (Nat.le_of_ble_eq_true rfl) dX4_readDenied_9 ?_
  refine X_iload_n 0 dX4_readDenied_12 rfl rfl ?_
  obtain ⟨g5, hm⟩ := og hm
  replace hm := Option.some.inj hm
  subst hm
  exact X_zret dX4_readDenied_13 rfl (x_nz g5)
def mX4_readBracketed (r_X4_readTest : (Nat → Nat → Int32) → Int32 → Option (Int32 × (Nat → Nat → Int32))) (I : Nat → Nat → Int32) (a1 : Int32) : Option (Int32 × (Nat → Nat → Int32)) := (Option.bind (r_X4_readTest I a1) (fun q1 => (if q1.1 = 0 then (some ((0 : Int32), q1.2)) else (Option.bind (mX9_kind q1.2) (fun q4 => (if q4 = (31 : Int32) then (Option.bind (mX9_step q1.2) (fun q7 => (some ((1 : Int32), q7)))) else (Option.bind (mX9_fail q1.2 (0 : Int32)) (fun q9 => (if q9.1 = 0 ∨ q9.1 = 1 then (some (q9.1, q9.2)) else none)))))))))
set_option maxHeartbeats 400000 in
set_option maxRecDepth 100000 in
theorem kX4_readBracketed {E : xE} {B : Nat} {n : Nat} {K : Nat → Nat × Nat} {P : Nat → Nat → Nat} {I : Nat → Nat → Int32} {L : Nat → Nat → Int64} {r_X4_readTest : (Nat → Nat → Int32) → Int32 → Option (Int32 × (Nat → Nat → Int32))} {a1 : Int32} {q : Int32 × (Nat → Nat → Int32)} (d : Nat) (hd : 1 ≤ d) (G : GW K P) (dr : Nat) (hdr : 1 + dr ≤ d) (hr_X4_readTest : ∀ {n : Nat} {L : Nat → Nat → Int64} {I : Nat → Nat → Int32} {a1 : Int32} {q : Int32 × (Nat → Nat → Int32)}, GW K P → r_X4_readTest I a1 = some q → MX E B dr 0 0 yX4_readTest cX4_readTest 3 (some .boolean) [.ref 7, .int a1] (n, K, P, I, L) (some (.int q.1), (n, K, P, q.2, L)))  (hm : mX4_readBracketed r_X4_readTest I a1 = some q) : MX E B d 0 0 yX4_readBracketed cX4_readBracketed 2 (some .boolean) [.ref 7, .int a1] (n, K, P, I, L) (some (.int q.1), (n, K, P, q.2, L)) := by
  refine MX_of (lv := [(0, .ref 7), (1, .int a1)]) (by decide +kernel) (Nat.le_of_ble_eq_true rfl) rfl ?_
  obtain ⟨d, rfl⟩ : ∃ d0, d = d0 + 1 := ⟨d - 1, by omega⟩
  unfold mX4_readBracketed at hm
  refine X_aload_n 0 dX4_readBracketed_0 rfl rfl rfl ?_
  refine X_iload_n 1 dX4_readBracketed_1 rfl rfl ?_
  obtain ⟨q1, e2, hm⟩ := ob hm
  refine X_cV1 (ci := 3) (hr_X4_readTest G e2) ml_X4_63 mi_X4_readTest rfl cf_3 (g_K7 G) rfl rfl (by omega) ⟨Nat.le_refl _, Nat.le_refl _⟩ (Nat.le_of_ble_eq_true rfl) dX4_readBracketed_2 ?_
  refine X_if_ne (tgt := 10) dX4_readBracketed_5 (by decide) (fun c3 => ?_) (fun c3 => ?_)
  · replace hm := iq c3 hm
    refine X_aload_n 0 dX4_readBracketed_10 rfl rfl rfl ?_
    refine X_getPe fl_X4_21 (g_K7 G) rfl (g_P7_0 G) dX4_readBracketed_11 ?_
    obtain ⟨q4, e5, hm⟩ := ob hm
    refine X_cV1 (ci := 8) (kX9_kind d (by omega) G e5) ml_X4_46 mi_X9_kind rfl cf_8 (g_K3 G) rfl rfl (Nat.le_refl _) ⟨Nat.le_refl _, Nat.le_refl _⟩ (Nat.le_of_ble_eq_true rfl) dX4_readBracketed_14 ?_
    refine X_bipush (v := (31 : Int32)) dX4_readBracketed_17 (by decide) ?_
    refine X_icmp_eq (tgt := 31) dX4_readBracketed_19 (by decide) (fun c6 => ?_) (fun c6 => ?_)
    · replace hm := ip c6 hm
      refine X_aload_n 0 dX4_readBracketed_31 rfl rfl rfl ?_
      refine X_getPe fl_X4_21 (g_K7 G) rfl (g_P7_0 G) dX4_readBracketed_32 ?_
      obtain ⟨q7, e8, hm⟩ := ob hm
      refine X_cV0 (ci := 8) (kX9_step d (by omega) G e8) ml_X4_56 mi_X9_step rfl cf_8 (g_K3 G) rfl rfl (Nat.le_refl _) ⟨Nat.le_refl _, Nat.le_refl _⟩ (Nat.le_of_ble_eq_true rfl) dX4_readBracketed_35 ?_
      refine X_iconst (v := (1 : Int32)) dX4_readBracketed_38 (by decide) ?_
      replace hm := Option.some.inj hm
      subst hm
      exact X_zret (v := (1 : Int32)) dX4_readBracketed_39 rfl (x_nz (Or.inr rfl))
    · replace hm := iq c6 hm
      refine X_aload_n 0 dX4_readBracketed_22 rfl rfl rfl ?_
      refine X_getPe fl_X4_21 (g_K7 G) rfl (g_P7_0 G) dX4_readBracketed_23 ?_
      refine X_iconst (v := (0 : Int32)) dX4_readBracketed_26 (by decide) ?_
      obtain ⟨q9, e10, hm⟩ := ob hm
      refine X_cV1 (ci := 8) (kX9_fail d (by omega) G e10) ml_X4_52 mi_X9_fail rfl cf_8 (g_K3 G) rfl rfl (Nat.le_refl _) ⟨Nat.le_refl _, Nat.le_refl _⟩ (Nat.le_of_ble_eq_true rfl) dX4_readBracketed_27 ?_
      obtain ⟨g11, hm⟩ := og hm
      replace hm := Option.some.inj hm
      subst hm
      exact X_zret dX4_readBracketed_30 rfl (x_nz g11)
  · replace hm := ip c3 hm
    refine X_iconst (v := (0 : Int32)) dX4_readBracketed_8 (by decide) ?_
    replace hm := Option.some.inj hm
    subst hm
    exact X_zret (v := (0 : Int32)) dX4_readBracketed_9 rfl (x_nz (Or.inl rfl))
def mX4_compares  (a0 : Int32) : Option (Int32) := (if a0 = (27 : Int32) then (some (1 : Int32)) else (if a0 = (28 : Int32) then (some (1 : Int32)) else (if a0 = (29 : Int32) then (some (1 : Int32)) else (if a0 = (33 : Int32) then (some (1 : Int32)) else (if a0 = (34 : Int32) then (some (1 : Int32)) else (some (0 : Int32)))))))
set_option maxHeartbeats 400000 in
set_option maxRecDepth 100000 in
theorem kX4_compares {E : xE} {B : Nat} {n : Nat} {K : Nat → Nat × Nat} {P : Nat → Nat → Nat} {I : Nat → Nat → Int32} {L : Nat → Nat → Int64}  {a0 : Int32} {q : Int32} (d : Nat) (hd : 0 ≤ d) (G : GW K P)   (hm : mX4_compares a0 = some q) : MX E B d 0 0 yX4_compares cX4_compares 1 (some .boolean) [.int a0] (n, K, P, I, L) (some (.int q), (n, K, P, I, L)) := by
  refine MX_of (lv := [(0, .int a0)]) (by decide +kernel) (Nat.le_of_ble_eq_true rfl) rfl ?_
  unfold mX4_compares at hm
  refine X_iload_n 0 dX4_compares_0 rfl rfl ?_
  refine X_bipush (v := (27 : Int32)) dX4_compares_1 (by decide) ?_
  refine X_icmp_eq (tgt := 30) dX4_compares_3 (by decide) (fun c1 => ?_) (fun c1 => ?_)
  · replace hm := ip c1 hm
    refine X_iconst (v := (1 : Int32)) dX4_compares_30 (by decide) ?_
    refine X_goto (tgt := 35) dX4_compares_31 (by decide) ?_
    replace hm := Option.some.inj hm
    subst hm
    exact X_zret (v := (1 : Int32)) dX4_compares_35 rfl (x_nz (Or.inr rfl))
  · replace hm := iq c1 hm
    refine X_iload_n 0 dX4_compares_6 rfl rfl ?_
    refine X_bipush (v := (28 : Int32)) dX4_compares_7 (by decide) ?_
    refine X_icmp_eq (tgt := 30) dX4_compares_9 (by decide) (fun c2 => ?_) (fun c2 => ?_)
    · replace hm := ip c2 hm
      refine X_iconst (v := (1 : Int32)) dX4_compares_30 (by decide) ?_
      refine X_goto (tgt := 35) dX4_compares_31 (by decide) ?_
      replace hm := Option.some.inj hm
      subst hm
      exact X_zret (v := (1 : Int32)) dX4_compares_35 rfl (x_nz (Or.inr rfl))
    · replace hm := iq c2 hm
      refine X_iload_n 0 dX4_compares_12 rfl rfl ?_
      refine X_bipush (v := (29 : Int32)) dX4_compares_13 (by decide) ?_
      refine X_icmp_eq (tgt := 30) dX4_compares_15 (by decide) (fun c3 => ?_) (fun c3 => ?_)
      · replace hm := ip c3 hm
        refine X_iconst (v := (1 : Int32)) dX4_compares_30 (by decide) ?_
        refine X_goto (tgt := 35) dX4_compares_31 (by decide) ?_
        replace hm := Option.some.inj hm
        subst hm
        exact X_zret (v := (1 : Int32)) dX4_compares_35 rfl (x_nz (Or.inr rfl))
      · replace hm := iq c3 hm
        refine X_iload_n 0 dX4_compares_18 rfl rfl ?_
        refine X_bipush (v := (33 : Int32)) dX4_compares_19 (by decide) ?_
        refine X_icmp_eq (tgt := 30) dX4_compares_21 (by decide) (fun c4 => ?_) (fun c4 => ?_)
        · replace hm := ip c4 hm
          refine X_iconst (v := (1 : Int32)) dX4_compares_30 (by decide) ?_
          refine X_goto (tgt := 35) dX4_compares_31 (by decide) ?_
          replace hm := Option.some.inj hm
          subst hm
          exact X_zret (v := (1 : Int32)) dX4_compares_35 rfl (x_nz (Or.inr rfl))
        · replace hm := iq c4 hm
          refine X_iload_n 0 dX4_compares_24 rfl rfl ?_
          refine X_bipush (v := (34 : Int32)) dX4_compares_25 (by decide) ?_
          refine X_icmp_ne (tgt := 34) dX4_compares_27 (by decide) (fun c5 => ?_) (fun c5 => ?_)
          · replace hm := iq c5 hm
            refine X_iconst (v := (0 : Int32)) dX4_compares_34 (by decide) ?_
            replace hm := Option.some.inj hm
            subst hm
            exact X_zret (v := (0 : Int32)) dX4_compares_35 rfl (x_nz (Or.inl rfl))
          · replace hm := ip c5 hm
            refine X_iconst (v := (1 : Int32)) dX4_compares_30 (by decide) ?_
            refine X_goto (tgt := 35) dX4_compares_31 (by decide) ?_
            replace hm := Option.some.inj hm
            subst hm
            exact X_zret (v := (1 : Int32)) dX4_compares_35 rfl (x_nz (Or.inr rfl))
def mX4_readFact_20 (r_X4_readFact : (Nat → Nat → Int32) → Int32 → Option (Int32 × (Nat → Nat → Int32))) (r_X4_readTest : (Nat → Nat → Int32) → Int32 → Option (Int32 × (Nat → Nat → Int32))) (I : Nat → Nat → Int32) (a1 : Int32) (a2 : Int32) : Option (Int32 × (Nat → Nat → Int32)) := (if a1 < (10 : Int32) then (Option.bind (mX9_step I) (fun q5 => (if a2 = (21 : Int32) then (Option.bind (mX4_readDenied r_X4_readFact q5 (a1 + (1 : Int32))) (fun q11 => (if q11.1 = 0 ∨ q11.1 = 1 then (some (q11.1, q11.2)) else none))) else (Option.bind (mX4_readBracketed r_X4_readTest q5 (a1 + (1 : Int32))) (fun q8 => (if q8.1 = 0 ∨ q8.1 = 1 then (some (q8.1, q8.2)) else none)))))) else (Option.bind (mX9_fail I (2 : Int32)) (fun q14 => (if q14.1 = 0 ∨ q14.1 = 1 then (some (q14.1, q14.2)) else none))))
set_option maxHeartbeats 400000 in
set_option maxRecDepth 100000 in
theorem kX4_readFact_20 {E : xE} {B : Nat} {n : Nat} {K : Nat → Nat × Nat} {P : Nat → Nat → Nat} {I : Nat → Nat → Int32} {L : Nat → Nat → Int64} {r_X4_readFact : (Nat → Nat → Int32) → Int32 → Option (Int32 × (Nat → Nat → Int32))} {r_X4_readTest : (Nat → Nat → Int32) → Int32 → Option (Int32 × (Nat → Nat → Int32))}  {a1 : Int32} {a2 : Int32} {q : Int32 × (Nat → Nat → Int32)} (d : Nat) (hd : 3 ≤ d) (G : GW K P) (dr : Nat) (hdr : 2 + dr ≤ d) (hr_X4_readFact : ∀ {n : Nat} {L : Nat → Nat → Int64} {I : Nat → Nat → Int32} {a1 : Int32} {q : Int32 × (Nat → Nat → Int32)}, GW K P → r_X4_readFact I a1 = some q → MX E B dr 0 0 yX4_readFact cX4_readFact 5 (some .boolean) [.ref 7, .int a1] (n, K, P, I, L) (some (.int q.1), (n, K, P, q.2, L))) (hr_X4_readTest : ∀ {n : Nat} {L : Nat → Nat → Int64} {I : Nat → Nat → Int32} {a1 : Int32} {q : Int32 × (Nat → Nat → Int32)}, GW K P → r_X4_readTest I a1 = some q → MX E B dr 0 0 yX4_readTest cX4_readTest 3 (some .boolean) [.ref 7, .int a1] (n, K, P, I, L) (some (.int q.1), (n, K, P, q.2, L)))   (hm : mX4_readFact_20 r_X4_readFact r_X4_readTest I a1 a2 = some q) : X E B d 0 0 yX4_readFact cX4_readFact 5 (some .boolean) (some (.int q.1), (n, K, P, q.2, L)) 20 [(0, .ref 7), (1, .int a1), (2, .int a2)] [] 0 0 (n, K, P, I, L) := by
  obtain ⟨d, rfl⟩ : ∃ d0, d = d0 + 1 := ⟨d - 1, by omega⟩
  unfold mX4_readFact_20 at hm
  refine X_iload_n 1 dX4_readFact_20 rfl rfl ?_
  refine X_bipush (v := (10 : Int32)) dX4_readFact_21 (by decide) ?_
  refine X_icmp_lt (tgt := 35) dX4_readFact_23 (by decide) (fun c4 => ?_) (fun c4 => ?_)
  · replace hm := ip c4 hm
    refine X_aload_n 0 dX4_readFact_35 rfl rfl rfl ?_
    refine X_getPe fl_X4_21 (g_K7 G) rfl (g_P7_0 G) dX4_readFact_36 ?_
    obtain ⟨q5, e6, hm⟩ := ob hm
    refine X_cV0 (ci := 8) (kX9_step d (by omega) G e6) ml_X4_56 mi_X9_step rfl cf_8 (g_K3 G) rfl rfl (Nat.le_refl _) ⟨Nat.le_refl _, Nat.le_refl _⟩ (Nat.le_of_ble_eq_true rfl) dX4_readFact_39 ?_
    refine X_iload_n 2 dX4_readFact_42 rfl rfl ?_
    refine X_bipush (v := (21 : Int32)) dX4_readFact_43 (by decide) ?_
    refine X_icmp_ne (tgt := 58) dX4_readFact_45 (by decide) (fun c7 => ?_) (fun c7 => ?_)
    · replace hm := iq c7 hm
      refine X_aload_n 0 dX4_readFact_58 rfl rfl rfl ?_
      refine X_iload_n 1 dX4_readFact_59 rfl rfl ?_
      refine X_iconst (v := (1 : Int32)) dX4_readFact_60 (by decide) ?_
      refine X_iadd dX4_readFact_61 ?_
      obtain ⟨q8, e9, hm⟩ := ob hm
      refine X_cV1 (ci := 3) (kX4_readBracketed d (by omega) G dr (by omega) hr_X4_readTest e9) ml_X4_79 mi_X4_readBracketed rfl cf_3 (g_K7 G) rfl rfl (Nat.le_refl _) ⟨Nat.le_refl _, Nat.le_refl _⟩ (Nat.le_of_ble_eq_true rfl) dX4_readFact_62 ?_
      obtain ⟨g10, hm⟩ := og hm
      replace hm := Option.some.inj hm
      subst hm
      exact X_zret dX4_readFact_65 rfl (x_nz g10)
    · replace hm := ip c7 hm
      refine X_aload_n 0 dX4_readFact_48 rfl rfl rfl ?_
      refine X_iload_n 1 dX4_readFact_49 rfl rfl ?_
      refine X_iconst (v := (1 : Int32)) dX4_readFact_50 (by decide) ?_
      refine X_iadd dX4_readFact_51 ?_
      obtain ⟨q11, e12, hm⟩ := ob hm
      refine X_cV1 (ci := 3) (kX4_readDenied d (by omega) G dr (by omega) hr_X4_readFact e12) ml_X4_76 mi_X4_readDenied rfl cf_3 (g_K7 G) rfl rfl (Nat.le_refl _) ⟨Nat.le_refl _, Nat.le_refl _⟩ (Nat.le_of_ble_eq_true rfl) dX4_readFact_52 ?_
      refine X_goto (tgt := 65) dX4_readFact_55 (by decide) ?_
      obtain ⟨g13, hm⟩ := og hm
      replace hm := Option.some.inj hm
      subst hm
      exact X_zret dX4_readFact_65 rfl (x_nz g13)
  · replace hm := iq c4 hm
    refine X_aload_n 0 dX4_readFact_26 rfl rfl rfl ?_
    refine X_getPe fl_X4_21 (g_K7 G) rfl (g_P7_0 G) dX4_readFact_27 ?_
    refine X_iconst (v := (2 : Int32)) dX4_readFact_30 (by decide) ?_
    obtain ⟨q14, e15, hm⟩ := ob hm
    refine X_cV1 (ci := 8) (kX9_fail d (by omega) G e15) ml_X4_52 mi_X9_fail rfl cf_8 (g_K3 G) rfl rfl (Nat.le_refl _) ⟨Nat.le_refl _, Nat.le_refl _⟩ (Nat.le_of_ble_eq_true rfl) dX4_readFact_31 ?_
    obtain ⟨g16, hm⟩ := og hm
    replace hm := Option.some.inj hm
    subst hm
    exact X_zret dX4_readFact_34 rfl (x_nz g16)
def mX4_readFact (r_X4_readFact : (Nat → Nat → Int32) → Int32 → Option (Int32 × (Nat → Nat → Int32))) (r_X4_readTest : (Nat → Nat → Int32) → Int32 → Option (Int32 × (Nat → Nat → Int32))) (I : Nat → Nat → Int32) (a1 : Int32) : Option (Int32 × (Nat → Nat → Int32)) := (Option.bind (mX9_kind I) (fun q1 => (if q1 = (21 : Int32) then (mX4_readFact_20 r_X4_readFact r_X4_readTest I a1 q1) else (if q1 = (30 : Int32) then (mX4_readFact_20 r_X4_readFact r_X4_readTest I a1 q1) else (Option.bind (mX4_readSum I) (fun q18 => (if q18.1 = 0 then (some ((0 : Int32), q18.2)) else (Option.bind (mX9_kind q18.2) (fun q21 => (Option.bind (mX4_compares q21) (fun q23 => (if q23 = 0 then (Option.bind (mX9_fail q18.2 (0 : Int32)) (fun q37 => (if q37.1 = 0 ∨ q37.1 = 1 then (some (q37.1, q37.2)) else none))) else (if (q18.2 7 6) < (60 : Int32) then (Option.bind (mX9_step (xu q18.2 7 6 ((q18.2 7 6) + (1 : Int32)))) (fun q27 => (Option.bind (mX4_readSum q27) (fun q29 => (Option.bind (mX4_emit q29.2 q21) (fun q31 => (if q29.1 = 0 ∨ q29.1 = 1 then (some (q29.1, q31)) else none))))))) else (Option.bind (mX9_fail q18.2 (3 : Int32)) (fun q34 => (if q34.1 = 0 ∨ q34.1 = 1 then (some (q34.1, q34.2)) else none))))))))))))))))
set_option maxHeartbeats 400000 in
set_option maxRecDepth 100000 in
theorem kX4_readFact {E : xE} {B : Nat} {n : Nat} {K : Nat → Nat × Nat} {P : Nat → Nat → Nat} {I : Nat → Nat → Int32} {L : Nat → Nat → Int64} {r_X4_readFact : (Nat → Nat → Int32) → Int32 → Option (Int32 × (Nat → Nat → Int32))} {r_X4_readTest : (Nat → Nat → Int32) → Int32 → Option (Int32 × (Nat → Nat → Int32))} {a1 : Int32} {q : Int32 × (Nat → Nat → Int32)} (d : Nat) (hd : 3 ≤ d) (G : GW K P) (dr : Nat) (hdr : 2 + dr ≤ d) (hr_X4_readFact : ∀ {n : Nat} {L : Nat → Nat → Int64} {I : Nat → Nat → Int32} {a1 : Int32} {q : Int32 × (Nat → Nat → Int32)}, GW K P → r_X4_readFact I a1 = some q → MX E B dr 0 0 yX4_readFact cX4_readFact 5 (some .boolean) [.ref 7, .int a1] (n, K, P, I, L) (some (.int q.1), (n, K, P, q.2, L))) (hr_X4_readTest : ∀ {n : Nat} {L : Nat → Nat → Int64} {I : Nat → Nat → Int32} {a1 : Int32} {q : Int32 × (Nat → Nat → Int32)}, GW K P → r_X4_readTest I a1 = some q → MX E B dr 0 0 yX4_readTest cX4_readTest 3 (some .boolean) [.ref 7, .int a1] (n, K, P, I, L) (some (.int q.1), (n, K, P, q.2, L)))  (hm : mX4_readFact r_X4_readFact r_X4_readTest I a1 = some q) : MX E B d 0 0 yX4_readFact cX4_readFact 5 (some .boolean) [.ref 7, .int a1] (n, K, P, I, L) (some (.int q.1), (n, K, P, q.2, L)) := by
  refine MX_of (lv := [(0, .ref 7), (1, .int a1)]) (by decide +kernel) (Nat.le_of_ble_eq_true rfl) rfl ?_
  obtain ⟨d, rfl⟩ : ∃ d0, d = d0 + 1 := ⟨d - 1, by omega⟩
  unfold mX4_readFact at hm
  refine X_aload_n 0 dX4_readFact_0 rfl rfl rfl ?_
  refine X_getPe fl_X4_21 (g_K7 G) rfl (g_P7_0 G) dX4_readFact_1 ?_
  obtain ⟨q1, e2, hm⟩ := ob hm
  refine X_cV1 (ci := 8) (kX9_kind d (by omega) G e2) ml_X4_46 mi_X9_kind rfl cf_8 (g_K3 G) rfl rfl (Nat.le_refl _) ⟨Nat.le_refl _, Nat.le_refl _⟩ (Nat.le_of_ble_eq_true rfl) dX4_readFact_4 ?_
  refine X_istore_n (lv' := [(2, .int q1), (0, .ref 7), (1, .int a1)]) dX4_readFact_7 rfl (by decide) rfl ?_
  refine X_iload_n 0 dX4_readFact_8 rfl rfl ?_
  refine X_bipush (v := (21 : Int32)) dX4_readFact_9 (by decide) ?_
  refine X_icmp_eq (tgt := 20) dX4_readFact_11 (by decide) (fun c3 => ?_) (fun c3 => ?_)
  · replace hm := ip c3 hm
    exact X_lv [1, 2, 0] rfl (kX4_readFact_20 _ hd G dr hdr hr_X4_readFact hr_X4_readTest hm)
  · replace hm := iq c3 hm
    refine X_iload_n 0 dX4_readFact_14 rfl rfl ?_
    refine X_bipush (v := (30 : Int32)) dX4_readFact_15 (by decide) ?_
    refine X_icmp_ne (tgt := 66) dX4_readFact_17 (by decide) (fun c17 => ?_) (fun c17 => ?_)
    · replace hm := iq c17 hm
      refine X_aload_n 1 dX4_readFact_66 rfl rfl rfl ?_
      obtain ⟨q18, e19, hm⟩ := ob hm
      refine X_cV1 (ci := 3) (kX4_readSum d (by omega) G e19) ml_X4_59 mi_X4_readSum rfl cf_3 (g_K7 G) rfl rfl (Nat.le_refl _) ⟨Nat.le_refl _, Nat.le_refl _⟩ (Nat.le_of_ble_eq_true rfl) dX4_readFact_67 ?_
      refine X_if_ne (tgt := 75) dX4_readFact_70 (by decide) (fun c20 => ?_) (fun c20 => ?_)
      · replace hm := iq c20 hm
        refine X_aload_n 1 dX4_readFact_75 rfl rfl rfl ?_
        refine X_getPe fl_X4_21 (g_K7 G) rfl (g_P7_0 G) dX4_readFact_76 ?_
        obtain ⟨q21, e22, hm⟩ := ob hm
        refine X_cV1 (ci := 8) (kX9_kind d (by omega) G e22) ml_X4_46 mi_X9_kind rfl cf_8 (g_K3 G) rfl rfl (Nat.le_refl _) ⟨Nat.le_refl _, Nat.le_refl _⟩ (Nat.le_of_ble_eq_true rfl) dX4_readFact_79 ?_
        refine X_istore_n (lv' := [(3, .int q21), (2, .int q1), (0, .ref 7), (1, .int a1)]) dX4_readFact_82 rfl (by decide) rfl ?_
        refine X_iload_n 0 dX4_readFact_83 rfl rfl ?_
        obtain ⟨q23, e24, hm⟩ := ob hm
        refine X_cS1 (kX4_compares d (by omega) G e24) ml_X4_82 ms_X4_compares rfl rfl (Nat.le_refl _) ⟨Nat.le_refl _, Nat.le_refl _⟩ (Nat.le_of_ble_eq_true rfl) dX4_readFact_84 ?_
        refine X_if_ne (tgt := 99) dX4_readFact_87 (by decide) (fun c25 => ?_) (fun c25 => ?_)
        · replace hm := iq c25 hm
          refine X_aload_n 2 dX4_readFact_99 rfl rfl rfl ?_
          refine X_getI fl_X4_43 (g_K7 G) rfl dX4_readFact_100 ?_
          refine X_bipush (v := (60 : Int32)) dX4_readFact_103 (by decide) ?_
          refine X_icmp_lt (tgt := 117) dX4_readFact_105 (by decide) (fun c26 => ?_) (fun c26 => ?_)
          · replace hm := ip c26 hm
            refine X_aload_n 2 dX4_readFact_117 rfl rfl rfl ?_
            refine X_dup dX4_readFact_118 rfl ?_
            refine X_getI fl_X4_43 (g_K7 G) rfl dX4_readFact_119 ?_
            refine X_iconst (v := (1 : Int32)) dX4_readFact_122 (by decide) ?_
            refine X_iadd dX4_readFact_123 ?_
            refine X_putI fl_X4_43 (g_K7 G) rfl rfl dX4_readFact_124 ?_
            refine X_aload_n 2 dX4_readFact_127 rfl rfl rfl ?_
            refine X_getPe fl_X4_21 (g_K7 G) rfl (g_P7_0 G) dX4_readFact_128 ?_
            obtain ⟨q27, e28, hm⟩ := ob hm
            refine X_cV0 (ci := 8) (kX9_step d (by omega) G e28) ml_X4_56 mi_X9_step rfl cf_8 (g_K3 G) rfl rfl (Nat.le_refl _) ⟨Nat.le_refl _, Nat.le_refl _⟩ (Nat.le_of_ble_eq_true rfl) dX4_readFact_131 ?_
            refine X_aload_n 2 dX4_readFact_134 rfl rfl rfl ?_
            obtain ⟨q29, e30, hm⟩ := ob hm
            refine X_cV1 (ci := 3) (kX4_readSum d (by omega) G e30) ml_X4_59 mi_X4_readSum rfl cf_3 (g_K7 G) rfl rfl (Nat.le_refl _) ⟨Nat.le_refl _, Nat.le_refl _⟩ (Nat.le_of_ble_eq_true rfl) dX4_readFact_135 ?_
            refine X_istore (lv' := [(4, .int q29.1), (3, .int q21), (2, .int q1), (0, .ref 7), (1, .int a1)]) dX4_readFact_138 (by decide) rfl ?_
            refine X_aload_n 3 dX4_readFact_140 rfl rfl rfl ?_
            refine X_iload_n 1 dX4_readFact_141 rfl rfl ?_
            obtain ⟨q31, e32, hm⟩ := ob hm
            refine X_cV0 (ci := 3) (kX4_emit d (by omega) G e32) ml_X4_69 mi_X4_emit rfl cf_3 (g_K7 G) rfl rfl (Nat.le_refl _) ⟨Nat.le_refl _, Nat.le_refl _⟩ (Nat.le_of_ble_eq_true rfl) dX4_readFact_142 ?_
            refine X_iload 0 dX4_readFact_145 rfl ?_
            obtain ⟨g33, hm⟩ := og hm
            replace hm := Option.some.inj hm
            subst hm
            exact X_zret dX4_readFact_147 rfl (x_nz g33)
          · replace hm := iq c26 hm
            refine X_aload_n 2 dX4_readFact_108 rfl rfl rfl ?_
            refine X_getPe fl_X4_21 (g_K7 G) rfl (g_P7_0 G) dX4_readFact_109 ?_
            refine X_iconst (v := (3 : Int32)) dX4_readFact_112 (by decide) ?_
            obtain ⟨q34, e35, hm⟩ := ob hm
            refine X_cV1 (ci := 8) (kX9_fail d (by omega) G e35) ml_X4_52 mi_X9_fail rfl cf_8 (g_K3 G) rfl rfl (Nat.le_refl _) ⟨Nat.le_refl _, Nat.le_refl _⟩ (Nat.le_of_ble_eq_true rfl) dX4_readFact_113 ?_
            obtain ⟨g36, hm⟩ := og hm
            replace hm := Option.some.inj hm
            subst hm
            exact X_zret dX4_readFact_116 rfl (x_nz g36)
        · replace hm := ip c25 hm
          refine X_aload_n 2 dX4_readFact_90 rfl rfl rfl ?_
          refine X_getPe fl_X4_21 (g_K7 G) rfl (g_P7_0 G) dX4_readFact_91 ?_
          refine X_iconst (v := (0 : Int32)) dX4_readFact_94 (by decide) ?_
          obtain ⟨q37, e38, hm⟩ := ob hm
          refine X_cV1 (ci := 8) (kX9_fail d (by omega) G e38) ml_X4_52 mi_X9_fail rfl cf_8 (g_K3 G) rfl rfl (Nat.le_refl _) ⟨Nat.le_refl _, Nat.le_refl _⟩ (Nat.le_of_ble_eq_true rfl) dX4_readFact_95 ?_
          obtain ⟨g39, hm⟩ := og hm
          replace hm := Option.some.inj hm
          subst hm
          exact X_zret dX4_readFact_98 rfl (x_nz g39)
      · replace hm := ip c20 hm
        refine X_iconst (v := (0 : Int32)) dX4_readFact_73 (by decide) ?_
        replace hm := Option.some.inj hm
        subst hm
        exact X_zret (v := (0 : Int32)) dX4_readFact_74 rfl (x_nz (Or.inl rfl))
    · replace hm := ip c17 hm
      exact X_lv [1, 2, 0] rfl (kX4_readFact_20 _ hd G dr hdr hr_X4_readFact hr_X4_readTest hm)
def mX4_readPart_29 (r_X4_readFact : (Nat → Nat → Int32) → Int32 → Option (Int32 × (Nat → Nat → Int32))) (r_X4_readTest : (Nat → Nat → Int32) → Int32 → Option (Int32 × (Nat → Nat → Int32))) (b2 : (Nat → Nat → Int32) → Int32 → Int32 → Option (Int32 × (Nat → Nat → Int32))) (I : Nat → Nat → Int32) (a1 : Int32) (a2 : Int32) : Option (Int32 × (Nat → Nat → Int32)) := (Option.bind (mX9_kind I) (fun q6 => (if q6 = (19 : Int32) then (Option.bind (mX9_step I) (fun q9 => (b2 q9 a1 (a2 + 1)))) else (some ((1 : Int32), I)))))
set_option maxHeartbeats 400000 in
set_option maxRecDepth 100000 in
theorem kX4_readPart_29 {E : xE} {B : Nat} {n : Nat} {K : Nat → Nat × Nat} {P : Nat → Nat → Nat} {I : Nat → Nat → Int32} {L : Nat → Nat → Int64} {r_X4_readFact : (Nat → Nat → Int32) → Int32 → Option (Int32 × (Nat → Nat → Int32))} {r_X4_readTest : (Nat → Nat → Int32) → Int32 → Option (Int32 × (Nat → Nat → Int32))} {b2 : (Nat → Nat → Int32) → Int32 → Int32 → Option (Int32 × (Nat → Nat → Int32))} {a1 : Int32} {a2 : Int32} {q : Int32 × (Nat → Nat → Int32)} (d : Nat) (hd : 4 ≤ d) (G : GW K P) (dr : Nat) (hdr : 3 + dr ≤ d) (hr_X4_readFact : ∀ {n : Nat} {L : Nat → Nat → Int64} {I : Nat → Nat → Int32} {a1 : Int32} {q : Int32 × (Nat → Nat → Int32)}, GW K P → r_X4_readFact I a1 = some q → MX E B dr 0 0 yX4_readFact cX4_readFact 5 (some .boolean) [.ref 7, .int a1] (n, K, P, I, L) (some (.int q.1), (n, K, P, q.2, L))) (hr_X4_readTest : ∀ {n : Nat} {L : Nat → Nat → Int64} {I : Nat → Nat → Int32} {a1 : Int32} {q : Int32 × (Nat → Nat → Int32)}, GW K P → r_X4_readTest I a1 = some q → MX E B dr 0 0 yX4_readTest cX4_readTest 3 (some .boolean) [.ref 7, .int a1] (n, K, P, I, L) (some (.int q.1), (n, K, P, q.2, L))) (hb2 : ∀ (I : Nat → Nat → Int32) (a1 : Int32) (a2 : Int32), b2 I a1 a2 = some q → X E B d 0 0 yX4_readPart cX4_readPart 3 (some .boolean) (some (.int q.1), (n, K, P, q.2, L)) 2 [(0, .ref 7), (1, .int a1), (2, .int a2)] [] 0 0 (n, K, P, I, L))  (hm : mX4_readPart_29 r_X4_readFact r_X4_readTest b2 I a1 a2 = some q) : X E B d 0 0 yX4_readPart cX4_readPart 3 (some .boolean) (some (.int q.1), (n, K, P, q.2, L)) 29 [(0, .ref 7), (1, .int a1), (2, .int a2)] [] 0 0 (n, K, P, I, L) := by
  obtain ⟨d, rfl⟩ : ∃ d0, d = d0 + 1 := ⟨d - 1, by omega⟩
  unfold mX4_readPart_29 at hm
  refine X_aload_n 0 dX4_readPart_29 rfl rfl rfl ?_
  refine X_getPe fl_X4_21 (g_K7 G) rfl (g_P7_0 G) dX4_readPart_30 ?_
  obtain ⟨q6, e7, hm⟩ := ob hm
  refine X_cV1 (ci := 8) (kX9_kind d (by omega) G e7) ml_X4_46 mi_X9_kind rfl cf_8 (g_K3 G) rfl rfl (Nat.le_refl _) ⟨Nat.le_refl _, Nat.le_refl _⟩ (Nat.le_of_ble_eq_true rfl) dX4_readPart_33 ?_
  refine X_bipush (v := (19 : Int32)) dX4_readPart_36 (by decide) ?_
  refine X_icmp_eq (tgt := 43) dX4_readPart_38 (by decide) (fun c8 => ?_) (fun c8 => ?_)
  · replace hm := ip c8 hm
    refine X_aload_n 0 dX4_readPart_43 rfl rfl rfl ?_
    refine X_getPe fl_X4_21 (g_K7 G) rfl (g_P7_0 G) dX4_readPart_44 ?_
    obtain ⟨q9, e10, hm⟩ := ob hm
    refine X_cV0 (ci := 8) (kX9_step d (by omega) G e10) ml_X4_56 mi_X9_step rfl cf_8 (g_K3 G) rfl rfl (Nat.le_refl _) ⟨Nat.le_refl _, Nat.le_refl _⟩ (Nat.le_of_ble_eq_true rfl) dX4_readPart_47 ?_
    refine X_iinc (lv' := [(2, .int (a2 + 1)), (0, .ref 7), (1, .int a1)]) 2 dX4_readPart_50 rfl rfl (by decide) rfl ?_
    refine X_goto (tgt := 2) dX4_readPart_53 (by decide) ?_
    exact X_lv [1, 2, 0] rfl (hb2 _ _ _ hm)
  · replace hm := iq c8 hm
    refine X_iconst (v := (1 : Int32)) dX4_readPart_41 (by decide) ?_
    replace hm := Option.some.inj hm
    subst hm
    exact X_zret (v := (1 : Int32)) dX4_readPart_42 rfl (x_nz (Or.inr rfl))
def mX4_readPart_2 (r_X4_readFact : (Nat → Nat → Int32) → Int32 → Option (Int32 × (Nat → Nat → Int32))) (r_X4_readTest : (Nat → Nat → Int32) → Int32 → Option (Int32 × (Nat → Nat → Int32)))  : Nat → (Nat → Nat → Int32) → Int32 → Int32 → Option (Int32 × (Nat → Nat → Int32))
  | 0, _, _, _ => none
  | f + 1, I, a1, a2 => (if (400 : Int32) ≤ a2 then (some ((0 : Int32), I)) else (Option.bind (mX4_readFact r_X4_readFact r_X4_readTest I a1) (fun q2 => (if q2.1 = 0 then (some ((0 : Int32), q2.2)) else (if a2 ≤ 0 then (mX4_readPart_29 r_X4_readFact r_X4_readTest (fun (I : Nat → Nat → Int32) (a1 : Int32) (a2 : Int32) => mX4_readPart_2 r_X4_readFact r_X4_readTest f I a1 a2) q2.2 a1 a2) else (Option.bind (mX4_emit q2.2 (19 : Int32)) (fun q11 => (mX4_readPart_29 r_X4_readFact r_X4_readTest (fun (I : Nat → Nat → Int32) (a1 : Int32) (a2 : Int32) => mX4_readPart_2 r_X4_readFact r_X4_readTest f I a1 a2) q11 a1 a2))))))))
set_option maxHeartbeats 400000 in
set_option maxRecDepth 100000 in
theorem kX4_readPart_2 {E : xE} {B : Nat} {n : Nat} {K : Nat → Nat × Nat} {P : Nat → Nat → Nat} {L : Nat → Nat → Int64} {r_X4_readFact : (Nat → Nat → Int32) → Int32 → Option (Int32 × (Nat → Nat → Int32))} {r_X4_readTest : (Nat → Nat → Int32) → Int32 → Option (Int32 × (Nat → Nat → Int32))}  {q : Int32 × (Nat → Nat → Int32)} (d : Nat) (hd : 4 ≤ d) (G : GW K P) (dr : Nat) (hdr : 3 + dr ≤ d) (hr_X4_readFact : ∀ {n : Nat} {L : Nat → Nat → Int64} {I : Nat → Nat → Int32} {a1 : Int32} {q : Int32 × (Nat → Nat → Int32)}, GW K P → r_X4_readFact I a1 = some q → MX E B dr 0 0 yX4_readFact cX4_readFact 5 (some .boolean) [.ref 7, .int a1] (n, K, P, I, L) (some (.int q.1), (n, K, P, q.2, L))) (hr_X4_readTest : ∀ {n : Nat} {L : Nat → Nat → Int64} {I : Nat → Nat → Int32} {a1 : Int32} {q : Int32 × (Nat → Nat → Int32)}, GW K P → r_X4_readTest I a1 = some q → MX E B dr 0 0 yX4_readTest cX4_readTest 3 (some .boolean) [.ref 7, .int a1] (n, K, P, I, L) (some (.int q.1), (n, K, P, q.2, L)))  : ∀ (f : Nat) (I : Nat → Nat → Int32) (a1 : Int32) (a2 : Int32), mX4_readPart_2 r_X4_readFact r_X4_readTest f I a1 a2 = some q → X E B d 0 0 yX4_readPart cX4_readPart 3 (some .boolean) (some (.int q.1), (n, K, P, q.2, L)) 2 [(0, .ref 7), (1, .int a1), (2, .int a2)] [] 0 0 (n, K, P, I, L) := by
  obtain ⟨d, rfl⟩ : ∃ d0, d = d0 + 1 := ⟨d - 1, by omega⟩
  intro f
  induction f with
  | zero => intro _ _ _ hm; exact nomatch (show (none : Option (Int32 × (Nat → Nat → Int32))) = some q from hm)
  | succ f ih =>
    intro I a1 a2 hm
    rw [mX4_readPart_2] at hm
    refine X_iload_n 2 dX4_readPart_2 rfl rfl ?_
    refine X_sipush (v := (400 : Int32)) dX4_readPart_3 (by decide) ?_
    refine X_icmp_ge (tgt := 56) dX4_readPart_6 (by decide) (fun c1 => ?_) (fun c1 => ?_)
    · replace hm := ip c1 hm
      refine X_iconst (v := (0 : Int32)) dX4_readPart_56 (by decide) ?_
      replace hm := Option.some.inj hm
      subst hm
      exact X_zret (v := (0 : Int32)) dX4_readPart_57 rfl (x_nz (Or.inl rfl))
    · replace hm := iq c1 hm
      refine X_aload_n 0 dX4_readPart_9 rfl rfl rfl ?_
      refine X_iload_n 1 dX4_readPart_10 rfl rfl ?_
      obtain ⟨q2, e3, hm⟩ := ob hm
      refine X_cV1 (ci := 3) (kX4_readFact d (by omega) G dr (by omega) hr_X4_readFact hr_X4_readTest e3) ml_X4_73 mi_X4_readFact rfl cf_3 (g_K7 G) rfl rfl (Nat.le_refl _) ⟨Nat.le_refl _, Nat.le_refl _⟩ (Nat.le_of_ble_eq_true rfl) dX4_readPart_11 ?_
      refine X_if_ne (tgt := 19) dX4_readPart_14 (by decide) (fun c4 => ?_) (fun c4 => ?_)
      · replace hm := iq c4 hm
        refine X_iload_n 2 dX4_readPart_19 rfl rfl ?_
        refine X_if_le (tgt := 29) dX4_readPart_20 (by decide) (fun c5 => ?_) (fun c5 => ?_)
        · replace hm := ip c5 hm
          exact kX4_readPart_29 _ hd G dr hdr hr_X4_readFact hr_X4_readTest ih hm
        · replace hm := iq c5 hm
          refine X_aload_n 0 dX4_readPart_23 rfl rfl rfl ?_
          refine X_bipush (v := (19 : Int32)) dX4_readPart_24 (by decide) ?_
          obtain ⟨q11, e12, hm⟩ := ob hm
          refine X_cV0 (ci := 3) (kX4_emit d (by omega) G e12) ml_X4_69 mi_X4_emit rfl cf_3 (g_K7 G) rfl rfl (Nat.le_refl _) ⟨Nat.le_refl _, Nat.le_refl _⟩ (Nat.le_of_ble_eq_true rfl) dX4_readPart_26 ?_
          exact kX4_readPart_29 _ hd G dr hdr hr_X4_readFact hr_X4_readTest ih hm
      · replace hm := ip c4 hm
        refine X_iconst (v := (0 : Int32)) dX4_readPart_17 (by decide) ?_
        replace hm := Option.some.inj hm
        subst hm
        exact X_zret (v := (0 : Int32)) dX4_readPart_18 rfl (x_nz (Or.inl rfl))
def mX4_readPart (r_X4_readFact : (Nat → Nat → Int32) → Int32 → Option (Int32 × (Nat → Nat → Int32))) (r_X4_readTest : (Nat → Nat → Int32) → Int32 → Option (Int32 × (Nat → Nat → Int32))) (I : Nat → Nat → Int32) (a1 : Int32) : Option (Int32 × (Nat → Nat → Int32)) := (mX4_readPart_2 r_X4_readFact r_X4_readTest xf I a1 (0 : Int32))
set_option maxHeartbeats 400000 in
set_option maxRecDepth 100000 in
theorem kX4_readPart {E : xE} {B : Nat} {n : Nat} {K : Nat → Nat × Nat} {P : Nat → Nat → Nat} {I : Nat → Nat → Int32} {L : Nat → Nat → Int64} {r_X4_readFact : (Nat → Nat → Int32) → Int32 → Option (Int32 × (Nat → Nat → Int32))} {r_X4_readTest : (Nat → Nat → Int32) → Int32 → Option (Int32 × (Nat → Nat → Int32))} {a1 : Int32} {q : Int32 × (Nat → Nat → Int32)} (d : Nat) (hd : 4 ≤ d) (G : GW K P) (dr : Nat) (hdr : 3 + dr ≤ d) (hr_X4_readFact : ∀ {n : Nat} {L : Nat → Nat → Int64} {I : Nat → Nat → Int32} {a1 : Int32} {q : Int32 × (Nat → Nat → Int32)}, GW K P → r_X4_readFact I a1 = some q → MX E B dr 0 0 yX4_readFact cX4_readFact 5 (some .boolean) [.ref 7, .int a1] (n, K, P, I, L) (some (.int q.1), (n, K, P, q.2, L))) (hr_X4_readTest : ∀ {n : Nat} {L : Nat → Nat → Int64} {I : Nat → Nat → Int32} {a1 : Int32} {q : Int32 × (Nat → Nat → Int32)}, GW K P → r_X4_readTest I a1 = some q → MX E B dr 0 0 yX4_readTest cX4_readTest 3 (some .boolean) [.ref 7, .int a1] (n, K, P, I, L) (some (.int q.1), (n, K, P, q.2, L)))  (hm : mX4_readPart r_X4_readFact r_X4_readTest I a1 = some q) : MX E B d 0 0 yX4_readPart cX4_readPart 3 (some .boolean) [.ref 7, .int a1] (n, K, P, I, L) (some (.int q.1), (n, K, P, q.2, L)) := by
  refine MX_of (lv := [(0, .ref 7), (1, .int a1)]) (by decide +kernel) (Nat.le_of_ble_eq_true rfl) rfl ?_
  obtain ⟨d, rfl⟩ : ∃ d0, d = d0 + 1 := ⟨d - 1, by omega⟩
  unfold mX4_readPart at hm
  refine X_iconst (v := (0 : Int32)) dX4_readPart_0 (by decide) ?_
  refine X_istore_n (lv' := [(2, .int (0 : Int32)), (0, .ref 7), (1, .int a1)]) dX4_readPart_1 rfl (by decide) rfl ?_
  refine X_lv [1, 2, 0] rfl (kX4_readPart_2 _ hd G dr hdr hr_X4_readFact hr_X4_readTest xf _ _ _  hm)
def mX4_readTest_29 (r_X4_readFact : (Nat → Nat → Int32) → Int32 → Option (Int32 × (Nat → Nat → Int32))) (r_X4_readTest : (Nat → Nat → Int32) → Int32 → Option (Int32 × (Nat → Nat → Int32))) (b2 : (Nat → Nat → Int32) → Int32 → Int32 → Option (Int32 × (Nat → Nat → Int32))) (I : Nat → Nat → Int32) (a1 : Int32) (a2 : Int32) : Option (Int32 × (Nat → Nat → Int32)) := (Option.bind (mX9_kind I) (fun q6 => (if q6 = (20 : Int32) then (Option.bind (mX9_step I) (fun q9 => (b2 q9 a1 (a2 + 1)))) else (some ((1 : Int32), I)))))
set_option maxHeartbeats 400000 in
set_option maxRecDepth 100000 in
theorem kX4_readTest_29 {E : xE} {B : Nat} {n : Nat} {K : Nat → Nat × Nat} {P : Nat → Nat → Nat} {I : Nat → Nat → Int32} {L : Nat → Nat → Int64} {r_X4_readFact : (Nat → Nat → Int32) → Int32 → Option (Int32 × (Nat → Nat → Int32))} {r_X4_readTest : (Nat → Nat → Int32) → Int32 → Option (Int32 × (Nat → Nat → Int32))} {b2 : (Nat → Nat → Int32) → Int32 → Int32 → Option (Int32 × (Nat → Nat → Int32))} {a1 : Int32} {a2 : Int32} {q : Int32 × (Nat → Nat → Int32)} (d : Nat) (hd : 5 ≤ d) (G : GW K P) (dr : Nat) (hdr : 4 + dr ≤ d) (hr_X4_readFact : ∀ {n : Nat} {L : Nat → Nat → Int64} {I : Nat → Nat → Int32} {a1 : Int32} {q : Int32 × (Nat → Nat → Int32)}, GW K P → r_X4_readFact I a1 = some q → MX E B dr 0 0 yX4_readFact cX4_readFact 5 (some .boolean) [.ref 7, .int a1] (n, K, P, I, L) (some (.int q.1), (n, K, P, q.2, L))) (hr_X4_readTest : ∀ {n : Nat} {L : Nat → Nat → Int64} {I : Nat → Nat → Int32} {a1 : Int32} {q : Int32 × (Nat → Nat → Int32)}, GW K P → r_X4_readTest I a1 = some q → MX E B dr 0 0 yX4_readTest cX4_readTest 3 (some .boolean) [.ref 7, .int a1] (n, K, P, I, L) (some (.int q.1), (n, K, P, q.2, L))) (hb2 : ∀ (I : Nat → Nat → Int32) (a1 : Int32) (a2 : Int32), b2 I a1 a2 = some q → X E B d 0 0 yX4_readTest cX4_readTest 3 (some .boolean) (some (.int q.1), (n, K, P, q.2, L)) 2 [(0, .ref 7), (1, .int a1), (2, .int a2)] [] 0 0 (n, K, P, I, L))  (hm : mX4_readTest_29 r_X4_readFact r_X4_readTest b2 I a1 a2 = some q) : X E B d 0 0 yX4_readTest cX4_readTest 3 (some .boolean) (some (.int q.1), (n, K, P, q.2, L)) 29 [(0, .ref 7), (1, .int a1), (2, .int a2)] [] 0 0 (n, K, P, I, L) := by
  obtain ⟨d, rfl⟩ : ∃ d0, d = d0 + 1 := ⟨d - 1, by omega⟩
  unfold mX4_readTest_29 at hm
  refine X_aload_n 0 dX4_readTest_29 rfl rfl rfl ?_
  refine X_getPe fl_X4_21 (g_K7 G) rfl (g_P7_0 G) dX4_readTest_30 ?_
  obtain ⟨q6, e7, hm⟩ := ob hm
  refine X_cV1 (ci := 8) (kX9_kind d (by omega) G e7) ml_X4_46 mi_X9_kind rfl cf_8 (g_K3 G) rfl rfl (Nat.le_refl _) ⟨Nat.le_refl _, Nat.le_refl _⟩ (Nat.le_of_ble_eq_true rfl) dX4_readTest_33 ?_
  refine X_bipush (v := (20 : Int32)) dX4_readTest_36 (by decide) ?_
  refine X_icmp_eq (tgt := 43) dX4_readTest_38 (by decide) (fun c8 => ?_) (fun c8 => ?_)
  · replace hm := ip c8 hm
    refine X_aload_n 0 dX4_readTest_43 rfl rfl rfl ?_
    refine X_getPe fl_X4_21 (g_K7 G) rfl (g_P7_0 G) dX4_readTest_44 ?_
    obtain ⟨q9, e10, hm⟩ := ob hm
    refine X_cV0 (ci := 8) (kX9_step d (by omega) G e10) ml_X4_56 mi_X9_step rfl cf_8 (g_K3 G) rfl rfl (Nat.le_refl _) ⟨Nat.le_refl _, Nat.le_refl _⟩ (Nat.le_of_ble_eq_true rfl) dX4_readTest_47 ?_
    refine X_iinc (lv' := [(2, .int (a2 + 1)), (0, .ref 7), (1, .int a1)]) 2 dX4_readTest_50 rfl rfl (by decide) rfl ?_
    refine X_goto (tgt := 2) dX4_readTest_53 (by decide) ?_
    exact X_lv [1, 2, 0] rfl (hb2 _ _ _ hm)
  · replace hm := iq c8 hm
    refine X_iconst (v := (1 : Int32)) dX4_readTest_41 (by decide) ?_
    replace hm := Option.some.inj hm
    subst hm
    exact X_zret (v := (1 : Int32)) dX4_readTest_42 rfl (x_nz (Or.inr rfl))
def mX4_readTest_2 (r_X4_readFact : (Nat → Nat → Int32) → Int32 → Option (Int32 × (Nat → Nat → Int32))) (r_X4_readTest : (Nat → Nat → Int32) → Int32 → Option (Int32 × (Nat → Nat → Int32)))  : Nat → (Nat → Nat → Int32) → Int32 → Int32 → Option (Int32 × (Nat → Nat → Int32))
  | 0, _, _, _ => none
  | f + 1, I, a1, a2 => (if (400 : Int32) ≤ a2 then (some ((0 : Int32), I)) else (Option.bind (mX4_readPart r_X4_readFact r_X4_readTest I a1) (fun q2 => (if q2.1 = 0 then (some ((0 : Int32), q2.2)) else (if a2 ≤ 0 then (mX4_readTest_29 r_X4_readFact r_X4_readTest (fun (I : Nat → Nat → Int32) (a1 : Int32) (a2 : Int32) => mX4_readTest_2 r_X4_readFact r_X4_readTest f I a1 a2) q2.2 a1 a2) else (Option.bind (mX4_emit q2.2 (20 : Int32)) (fun q11 => (mX4_readTest_29 r_X4_readFact r_X4_readTest (fun (I : Nat → Nat → Int32) (a1 : Int32) (a2 : Int32) => mX4_readTest_2 r_X4_readFact r_X4_readTest f I a1 a2) q11 a1 a2))))))))
set_option maxHeartbeats 400000 in
set_option maxRecDepth 100000 in
theorem kX4_readTest_2 {E : xE} {B : Nat} {n : Nat} {K : Nat → Nat × Nat} {P : Nat → Nat → Nat} {L : Nat → Nat → Int64} {r_X4_readFact : (Nat → Nat → Int32) → Int32 → Option (Int32 × (Nat → Nat → Int32))} {r_X4_readTest : (Nat → Nat → Int32) → Int32 → Option (Int32 × (Nat → Nat → Int32))}  {q : Int32 × (Nat → Nat → Int32)} (d : Nat) (hd : 5 ≤ d) (G : GW K P) (dr : Nat) (hdr : 4 + dr ≤ d) (hr_X4_readFact : ∀ {n : Nat} {L : Nat → Nat → Int64} {I : Nat → Nat → Int32} {a1 : Int32} {q : Int32 × (Nat → Nat → Int32)}, GW K P → r_X4_readFact I a1 = some q → MX E B dr 0 0 yX4_readFact cX4_readFact 5 (some .boolean) [.ref 7, .int a1] (n, K, P, I, L) (some (.int q.1), (n, K, P, q.2, L))) (hr_X4_readTest : ∀ {n : Nat} {L : Nat → Nat → Int64} {I : Nat → Nat → Int32} {a1 : Int32} {q : Int32 × (Nat → Nat → Int32)}, GW K P → r_X4_readTest I a1 = some q → MX E B dr 0 0 yX4_readTest cX4_readTest 3 (some .boolean) [.ref 7, .int a1] (n, K, P, I, L) (some (.int q.1), (n, K, P, q.2, L)))  : ∀ (f : Nat) (I : Nat → Nat → Int32) (a1 : Int32) (a2 : Int32), mX4_readTest_2 r_X4_readFact r_X4_readTest f I a1 a2 = some q → X E B d 0 0 yX4_readTest cX4_readTest 3 (some .boolean) (some (.int q.1), (n, K, P, q.2, L)) 2 [(0, .ref 7), (1, .int a1), (2, .int a2)] [] 0 0 (n, K, P, I, L) := by
  obtain ⟨d, rfl⟩ : ∃ d0, d = d0 + 1 := ⟨d - 1, by omega⟩
  intro f
  induction f with
  | zero => intro _ _ _ hm; exact nomatch (show (none : Option (Int32 × (Nat → Nat → Int32))) = some q from hm)
  | succ f ih =>
    intro I a1 a2 hm
    rw [mX4_readTest_2] at hm
    refine X_iload_n 2 dX4_readTest_2 rfl rfl ?_
    refine X_sipush (v := (400 : Int32)) dX4_readTest_3 (by decide) ?_
    refine X_icmp_ge (tgt := 56) dX4_readTest_6 (by decide) (fun c1 => ?_) (fun c1 => ?_)
    · replace hm := ip c1 hm
      refine X_iconst (v := (0 : Int32)) dX4_readTest_56 (by decide) ?_
      replace hm := Option.some.inj hm
      subst hm
      exact X_zret (v := (0 : Int32)) dX4_readTest_57 rfl (x_nz (Or.inl rfl))
    · replace hm := iq c1 hm
      refine X_aload_n 0 dX4_readTest_9 rfl rfl rfl ?_
      refine X_iload_n 1 dX4_readTest_10 rfl rfl ?_
      obtain ⟨q2, e3, hm⟩ := ob hm
      refine X_cV1 (ci := 3) (kX4_readPart d (by omega) G dr (by omega) hr_X4_readFact hr_X4_readTest e3) ml_X4_66 mi_X4_readPart rfl cf_3 (g_K7 G) rfl rfl (Nat.le_refl _) ⟨Nat.le_refl _, Nat.le_refl _⟩ (Nat.le_of_ble_eq_true rfl) dX4_readTest_11 ?_
      refine X_if_ne (tgt := 19) dX4_readTest_14 (by decide) (fun c4 => ?_) (fun c4 => ?_)
      · replace hm := iq c4 hm
        refine X_iload_n 2 dX4_readTest_19 rfl rfl ?_
        refine X_if_le (tgt := 29) dX4_readTest_20 (by decide) (fun c5 => ?_) (fun c5 => ?_)
        · replace hm := ip c5 hm
          exact kX4_readTest_29 _ hd G dr hdr hr_X4_readFact hr_X4_readTest ih hm
        · replace hm := iq c5 hm
          refine X_aload_n 0 dX4_readTest_23 rfl rfl rfl ?_
          refine X_bipush (v := (20 : Int32)) dX4_readTest_24 (by decide) ?_
          obtain ⟨q11, e12, hm⟩ := ob hm
          refine X_cV0 (ci := 3) (kX4_emit d (by omega) G e12) ml_X4_69 mi_X4_emit rfl cf_3 (g_K7 G) rfl rfl (Nat.le_refl _) ⟨Nat.le_refl _, Nat.le_refl _⟩ (Nat.le_of_ble_eq_true rfl) dX4_readTest_26 ?_
          exact kX4_readTest_29 _ hd G dr hdr hr_X4_readFact hr_X4_readTest ih hm
      · replace hm := ip c4 hm
        refine X_iconst (v := (0 : Int32)) dX4_readTest_17 (by decide) ?_
        replace hm := Option.some.inj hm
        subst hm
        exact X_zret (v := (0 : Int32)) dX4_readTest_18 rfl (x_nz (Or.inl rfl))
def mX4_readTest (r_X4_readFact : (Nat → Nat → Int32) → Int32 → Option (Int32 × (Nat → Nat → Int32))) (r_X4_readTest : (Nat → Nat → Int32) → Int32 → Option (Int32 × (Nat → Nat → Int32))) (I : Nat → Nat → Int32) (a1 : Int32) : Option (Int32 × (Nat → Nat → Int32)) := (mX4_readTest_2 r_X4_readFact r_X4_readTest xf I a1 (0 : Int32))
set_option maxHeartbeats 400000 in
set_option maxRecDepth 100000 in
theorem kX4_readTest {E : xE} {B : Nat} {n : Nat} {K : Nat → Nat × Nat} {P : Nat → Nat → Nat} {I : Nat → Nat → Int32} {L : Nat → Nat → Int64} {r_X4_readFact : (Nat → Nat → Int32) → Int32 → Option (Int32 × (Nat → Nat → Int32))} {r_X4_readTest : (Nat → Nat → Int32) → Int32 → Option (Int32 × (Nat → Nat → Int32))} {a1 : Int32} {q : Int32 × (Nat → Nat → Int32)} (d : Nat) (hd : 5 ≤ d) (G : GW K P) (dr : Nat) (hdr : 4 + dr ≤ d) (hr_X4_readFact : ∀ {n : Nat} {L : Nat → Nat → Int64} {I : Nat → Nat → Int32} {a1 : Int32} {q : Int32 × (Nat → Nat → Int32)}, GW K P → r_X4_readFact I a1 = some q → MX E B dr 0 0 yX4_readFact cX4_readFact 5 (some .boolean) [.ref 7, .int a1] (n, K, P, I, L) (some (.int q.1), (n, K, P, q.2, L))) (hr_X4_readTest : ∀ {n : Nat} {L : Nat → Nat → Int64} {I : Nat → Nat → Int32} {a1 : Int32} {q : Int32 × (Nat → Nat → Int32)}, GW K P → r_X4_readTest I a1 = some q → MX E B dr 0 0 yX4_readTest cX4_readTest 3 (some .boolean) [.ref 7, .int a1] (n, K, P, I, L) (some (.int q.1), (n, K, P, q.2, L)))  (hm : mX4_readTest r_X4_readFact r_X4_readTest I a1 = some q) : MX E B d 0 0 yX4_readTest cX4_readTest 3 (some .boolean) [.ref 7, .int a1] (n, K, P, I, L) (some (.int q.1), (n, K, P, q.2, L)) := by
  refine MX_of (lv := [(0, .ref 7), (1, .int a1)]) (by decide +kernel) (Nat.le_of_ble_eq_true rfl) rfl ?_
  obtain ⟨d, rfl⟩ : ∃ d0, d = d0 + 1 := ⟨d - 1, by omega⟩
  unfold mX4_readTest at hm
  refine X_iconst (v := (0 : Int32)) dX4_readTest_0 (by decide) ?_
  refine X_istore_n (lv' := [(2, .int (0 : Int32)), (0, .ref 7), (1, .int a1)]) dX4_readTest_1 rfl (by decide) rfl ?_
  refine X_lv [1, 2, 0] rfl (kX4_readTest_2 _ hd G dr hdr hr_X4_readFact hr_X4_readTest xf _ _ _  hm)
def zX4_rd : Nat → Bool → (Nat → Nat → Int32) → Int32 → Option (Int32 × (Nat → Nat → Int32))
  | 0, _, _, _ => none
  | f + 1, true, I, a1 => mX4_readFact (fun I a1 => zX4_rd f true I a1) (fun I a1 => zX4_rd f false I a1) I a1
  | f + 1, false, I, a1 => mX4_readTest (fun I a1 => zX4_rd f true I a1) (fun I a1 => zX4_rd f false I a1) I a1
theorem zgX4_rd {E : xE} {B : Nat} {K : Nat → Nat × Nat} {P : Nat → Nat → Nat} (G : GW K P) : ∀ (f : Nat), (∀ {n : Nat} {L : Nat → Nat → Int64} {I : Nat → Nat → Int32} {a1 : Int32} {q : Int32 × (Nat → Nat → Int32)} (d : Nat), 5 + 6 * f ≤ d → zX4_rd f true I a1 = some q → MX E B d 0 0 yX4_readFact cX4_readFact 5 (some .boolean) [.ref 7, .int a1] (n, K, P, I, L) (some (.int q.1), (n, K, P, q.2, L))) ∧ (∀ {n : Nat} {L : Nat → Nat → Int64} {I : Nat → Nat → Int32} {a1 : Int32} {q : Int32 × (Nat → Nat → Int32)} (d : Nat), 5 + 6 * f ≤ d → zX4_rd f false I a1 = some q → MX E B d 0 0 yX4_readTest cX4_readTest 3 (some .boolean) [.ref 7, .int a1] (n, K, P, I, L) (some (.int q.1), (n, K, P, q.2, L))) := by
  intro f
  induction f with
  | zero => exact ⟨(fun {n L I a1 q} d hd hm => nomatch (show (none : Option (Int32 × (Nat → Nat → Int32))) = some q from hm)), (fun {n L I a1 q} d hd hm => nomatch (show (none : Option (Int32 × (Nat → Nat → Int32))) = some q from hm))⟩
  | succ f ih =>
    refine ⟨fun {n L I a1 q} d hd hm => ?_, fun {n L I a1 q} d hd hm => ?_⟩
    · rw [zX4_rd] at hm
      exact kX4_readFact d (by omega) G (5 + 6 * f) (by omega) (fun {n} {L} {I} {a1} {q} _ h2 => ih.1 (5 + 6 * f) (Nat.le_refl _) h2) (fun {n} {L} {I} {a1} {q} _ h2 => ih.2 (5 + 6 * f) (Nat.le_refl _) h2) hm
    · rw [zX4_rd] at hm
      exact kX4_readTest d (by omega) G (5 + 6 * f) (by omega) (fun {n} {L} {I} {a1} {q} _ h2 => ih.1 (5 + 6 * f) (Nat.le_refl _) h2) (fun {n} {L} {I} {a1} {q} _ h2 => ih.2 (5 + 6 * f) (Nat.le_refl _) h2) hm
def zX4_readTest (f : Nat) (I : Nat → Nat → Int32) (a1 : Int32) : Option (Int32 × (Nat → Nat → Int32)) := zX4_rd f false I a1
theorem zkX4_readTest {E : xE} {B : Nat} {n : Nat} {K : Nat → Nat × Nat} {P : Nat → Nat → Nat} {I : Nat → Nat → Int32} {L : Nat → Nat → Int64} {a1 : Int32} {q : Int32 × (Nat → Nat → Int32)} (d : Nat) (hd : 77 ≤ d) (G : GW K P) (hm : zX4_readTest 12 I a1 = some q) : MX E B d 0 0 yX4_readTest cX4_readTest 3 (some .boolean) [.ref 7, .int a1] (n, K, P, I, L) (some (.int q.1), (n, K, P, q.2, L)) := (zgX4_rd G 12).2 d (by omega) hm
def mX4_readAll_114 (b17 : (Nat → Nat → Int32) → Int32 → Option (Int32 × (Nat → Nat → Int32))) (I : Nat → Nat → Int32) (a1 : Int32) : Option (Int32 × (Nat → Nat → Int32)) := (if inb a1 12 = true then (Option.bind (mX9_kind (xu (xu I 10 (ix a1) (I 7 4)) 7 5 (a1 + (1 : Int32)))) (fun q16 => (if q16 = (36 : Int32) then (some ((1 : Int32), (xu (xu I 10 (ix a1) (I 7 4)) 7 5 (a1 + (1 : Int32))))) else (Option.bind (mX9_kind (xu (xu I 10 (ix a1) (I 7 4)) 7 5 (a1 + (1 : Int32)))) (fun q19 => (if q19 = (32 : Int32) then (Option.bind (mX9_step (xu (xu I 10 (ix a1) (I 7 4)) 7 5 (a1 + (1 : Int32)))) (fun q22 => (b17 q22 (a1 + 1)))) else (Option.bind (mX9_fail (xu (xu I 10 (ix a1) (I 7 4)) 7 5 (a1 + (1 : Int32))) (0 : Int32)) (fun q24 => (if q24.1 = 0 ∨ q24.1 = 1 then (some (q24.1, q24.2)) else none))))))))) else none)
set_option maxHeartbeats 400000 in
set_option maxRecDepth 100000 in
theorem kX4_readAll_114 {E : xE} {B : Nat} {n : Nat} {K : Nat → Nat × Nat} {P : Nat → Nat → Nat} {I : Nat → Nat → Int32} {L : Nat → Nat → Int64}  {b17 : (Nat → Nat → Int32) → Int32 → Option (Int32 × (Nat → Nat → Int32))} {a1 : Int32} {q : Int32 × (Nat → Nat → Int32)} (d : Nat) (hd : 78 ≤ d) (G : GW K P)  (hb17 : ∀ (I : Nat → Nat → Int32) (a1 : Int32), b17 I a1 = some q → X E B d 0 0 yX4_readAll cX4_readAll 2 (some .boolean) (some (.int q.1), (n, K, P, q.2, L)) 17 [(0, .ref 7), (1, .int a1)] [] 0 0 (n, K, P, I, L))  (hm : mX4_readAll_114 b17 I a1 = some q) : X E B d 0 0 yX4_readAll cX4_readAll 2 (some .boolean) (some (.int q.1), (n, K, P, q.2, L)) 114 [(0, .ref 7), (1, .int a1)] [] 0 0 (n, K, P, I, L) := by
  obtain ⟨d, rfl⟩ : ∃ d0, d = d0 + 1 := ⟨d - 1, by omega⟩
  unfold mX4_readAll_114 at hm
  refine X_aload_n 0 dX4_readAll_114 rfl rfl rfl ?_
  refine X_getPe fl_X4_18 (g_K7 G) rfl (g_P7_3 G) dX4_readAll_115 ?_
  refine X_iload_n 1 dX4_readAll_118 rfl rfl ?_
  refine X_aload_n 0 dX4_readAll_119 rfl rfl rfl ?_
  refine X_getI fl_X4_27 (g_K7 G) rfl dX4_readAll_120 ?_
  obtain ⟨g15, hm⟩ := og hm
  refine X_iastJ (g_K10 G) g15 rfl dX4_readAll_123 ?_
  refine X_aload_n 0 dX4_readAll_124 rfl rfl rfl ?_
  refine X_iload_n 1 dX4_readAll_125 rfl rfl ?_
  refine X_iconst (v := (1 : Int32)) dX4_readAll_126 (by decide) ?_
  refine X_iadd dX4_readAll_127 ?_
  refine X_putI fl_X4_37 (g_K7 G) rfl rfl dX4_readAll_128 ?_
  refine X_aload_n 0 dX4_readAll_131 rfl rfl rfl ?_
  refine X_getPe fl_X4_21 (g_K7 G) rfl (g_P7_0 G) dX4_readAll_132 ?_
  obtain ⟨q16, e17, hm⟩ := ob hm
  refine X_cV1 (ci := 8) (kX9_kind d (by omega) G e17) ml_X4_46 mi_X9_kind rfl cf_8 (g_K3 G) rfl rfl (Nat.le_refl _) ⟨Nat.le_refl _, Nat.le_refl _⟩ (Nat.le_of_ble_eq_true rfl) dX4_readAll_135 ?_
  refine X_bipush (v := (36 : Int32)) dX4_readAll_138 (by decide) ?_
  refine X_icmp_ne (tgt := 145) dX4_readAll_140 (by decide) (fun c18 => ?_) (fun c18 => ?_)
  · replace hm := iq c18 hm
    refine X_aload_n 0 dX4_readAll_145 rfl rfl rfl ?_
    refine X_getPe fl_X4_21 (g_K7 G) rfl (g_P7_0 G) dX4_readAll_146 ?_
    obtain ⟨q19, e20, hm⟩ := ob hm
    refine X_cV1 (ci := 8) (kX9_kind d (by omega) G e20) ml_X4_46 mi_X9_kind rfl cf_8 (g_K3 G) rfl rfl (Nat.le_refl _) ⟨Nat.le_refl _, Nat.le_refl _⟩ (Nat.le_of_ble_eq_true rfl) dX4_readAll_149 ?_
    refine X_bipush (v := (32 : Int32)) dX4_readAll_152 (by decide) ?_
    refine X_icmp_eq (tgt := 166) dX4_readAll_154 (by decide) (fun c21 => ?_) (fun c21 => ?_)
    · replace hm := ip c21 hm
      refine X_aload_n 0 dX4_readAll_166 rfl rfl rfl ?_
      refine X_getPe fl_X4_21 (g_K7 G) rfl (g_P7_0 G) dX4_readAll_167 ?_
      obtain ⟨q22, e23, hm⟩ := ob hm
      refine X_cV0 (ci := 8) (kX9_step d (by omega) G e23) ml_X4_56 mi_X9_step rfl cf_8 (g_K3 G) rfl rfl (Nat.le_refl _) ⟨Nat.le_refl _, Nat.le_refl _⟩ (Nat.le_of_ble_eq_true rfl) dX4_readAll_170 ?_
      refine X_iinc (lv' := [(1, .int (a1 + 1)), (0, .ref 7)]) 1 dX4_readAll_173 rfl rfl (by decide) rfl ?_
      refine X_goto (tgt := 17) dX4_readAll_176 (by decide) ?_
      exact X_lv [1, 0] rfl (hb17 _ _ hm)
    · replace hm := iq c21 hm
      refine X_aload_n 0 dX4_readAll_157 rfl rfl rfl ?_
      refine X_getPe fl_X4_21 (g_K7 G) rfl (g_P7_0 G) dX4_readAll_158 ?_
      refine X_iconst (v := (0 : Int32)) dX4_readAll_161 (by decide) ?_
      obtain ⟨q24, e25, hm⟩ := ob hm
      refine X_cV1 (ci := 8) (kX9_fail d (by omega) G e25) ml_X4_52 mi_X9_fail rfl cf_8 (g_K3 G) rfl rfl (Nat.le_refl _) ⟨Nat.le_refl _, Nat.le_refl _⟩ (Nat.le_of_ble_eq_true rfl) dX4_readAll_162 ?_
      obtain ⟨g26, hm⟩ := og hm
      replace hm := Option.some.inj hm
      subst hm
      exact X_zret dX4_readAll_165 rfl (x_nz g26)
  · replace hm := ip c18 hm
    refine X_iconst (v := (1 : Int32)) dX4_readAll_143 (by decide) ?_
    replace hm := Option.some.inj hm
    subst hm
    exact X_zret (v := (1 : Int32)) dX4_readAll_144 rfl (x_nz (Or.inr rfl))
def mX4_readAll_17   : Nat → (Nat → Nat → Int32) → Int32 → Option (Int32 × (Nat → Nat → Int32))
  | 0, _, _ => none
  | f + 1, I, a1 => (if (12 : Int32) < a1 then (some ((0 : Int32), I)) else (Option.bind (mX9_kind I) (fun q2 => (if q2 = (17 : Int32) then (if a1 = (12 : Int32) then (Option.bind (mX9_fail I (4 : Int32)) (fun q32 => (if q32.1 = 0 ∨ q32.1 = 1 then (some (q32.1, q32.2)) else none))) else (Option.bind (mX9_step I) (fun q6 => (Option.bind (mX4_readSum q6) (fun q8 => (if q8.1 = 0 then (some ((0 : Int32), q8.2)) else (if inb a1 12 = true then (Option.bind (mX9_kind (xu q8.2 9 (ix a1) (q8.2 7 4))) (fun q12 => (if q12 = (18 : Int32) then (Option.bind (mX9_step (xu q8.2 9 (ix a1) (q8.2 7 4))) (fun q27 => (Option.bind (zX4_readTest 12 q27 (0 : Int32)) (fun q29 => (if q29.1 = 0 then (some ((0 : Int32), q29.2)) else (mX4_readAll_114 (fun (I : Nat → Nat → Int32) (a1 : Int32) => mX4_readAll_17  f I a1) q29.2 a1)))))) else (mX4_readAll_114 (fun (I : Nat → Nat → Int32) (a1 : Int32) => mX4_readAll_17  f I a1) (xu q8.2 9 (ix a1) (q8.2 7 4)) a1)))) else none))))))) else (Option.bind (mX9_fail I (0 : Int32)) (fun q35 => (if q35.1 = 0 ∨ q35.1 = 1 then (some (q35.1, q35.2)) else none)))))))
set_option maxHeartbeats 400000 in
set_option maxRecDepth 100000 in
theorem kX4_readAll_17 {E : xE} {B : Nat} {n : Nat} {K : Nat → Nat × Nat} {P : Nat → Nat → Nat} {L : Nat → Nat → Int64}   {q : Int32 × (Nat → Nat → Int32)} (d : Nat) (hd : 78 ≤ d) (G : GW K P)   : ∀ (f : Nat) (I : Nat → Nat → Int32) (a1 : Int32), mX4_readAll_17 f I a1 = some q → X E B d 0 0 yX4_readAll cX4_readAll 2 (some .boolean) (some (.int q.1), (n, K, P, q.2, L)) 17 [(0, .ref 7), (1, .int a1)] [] 0 0 (n, K, P, I, L) := by
  obtain ⟨d, rfl⟩ : ∃ d0, d = d0 + 1 := ⟨d - 1, by omega⟩
  intro f
  induction f with
  | zero => intro _ _ hm; exact nomatch (show (none : Option (Int32 × (Nat → Nat → Int32))) = some q from hm)
  | succ f ih =>
    intro I a1 hm
    rw [mX4_readAll_17] at hm
    refine X_iload_n 1 dX4_readAll_17 rfl rfl ?_
    refine X_bipush (v := (12 : Int32)) dX4_readAll_18 (by decide) ?_
    refine X_icmp_gt (tgt := 179) dX4_readAll_20 (by decide) (fun c1 => ?_) (fun c1 => ?_)
    · replace hm := ip c1 hm
      refine X_iconst (v := (0 : Int32)) dX4_readAll_179 (by decide) ?_
      replace hm := Option.some.inj hm
      subst hm
      exact X_zret (v := (0 : Int32)) dX4_readAll_180 rfl (x_nz (Or.inl rfl))
    · replace hm := iq c1 hm
      refine X_aload_n 0 dX4_readAll_23 rfl rfl rfl ?_
      refine X_getPe fl_X4_21 (g_K7 G) rfl (g_P7_0 G) dX4_readAll_24 ?_
      obtain ⟨q2, e3, hm⟩ := ob hm
      refine X_cV1 (ci := 8) (kX9_kind d (by omega) G e3) ml_X4_46 mi_X9_kind rfl cf_8 (g_K3 G) rfl rfl (Nat.le_refl _) ⟨Nat.le_refl _, Nat.le_refl _⟩ (Nat.le_of_ble_eq_true rfl) dX4_readAll_27 ?_
      refine X_bipush (v := (17 : Int32)) dX4_readAll_30 (by decide) ?_
      refine X_icmp_eq (tgt := 44) dX4_readAll_32 (by decide) (fun c4 => ?_) (fun c4 => ?_)
      · replace hm := ip c4 hm
        refine X_iload_n 1 dX4_readAll_44 rfl rfl ?_
        refine X_bipush (v := (12 : Int32)) dX4_readAll_45 (by decide) ?_
        refine X_icmp_ne (tgt := 59) dX4_readAll_47 (by decide) (fun c5 => ?_) (fun c5 => ?_)
        · replace hm := iq c5 hm
          refine X_aload_n 0 dX4_readAll_59 rfl rfl rfl ?_
          refine X_getPe fl_X4_21 (g_K7 G) rfl (g_P7_0 G) dX4_readAll_60 ?_
          obtain ⟨q6, e7, hm⟩ := ob hm
          refine X_cV0 (ci := 8) (kX9_step d (by omega) G e7) ml_X4_56 mi_X9_step rfl cf_8 (g_K3 G) rfl rfl (Nat.le_refl _) ⟨Nat.le_refl _, Nat.le_refl _⟩ (Nat.le_of_ble_eq_true rfl) dX4_readAll_63 ?_
          refine X_aload_n 0 dX4_readAll_66 rfl rfl rfl ?_
          obtain ⟨q8, e9, hm⟩ := ob hm
          refine X_cV1 (ci := 3) (kX4_readSum d (by omega) G e9) ml_X4_59 mi_X4_readSum rfl cf_3 (g_K7 G) rfl rfl (Nat.le_refl _) ⟨Nat.le_refl _, Nat.le_refl _⟩ (Nat.le_of_ble_eq_true rfl) dX4_readAll_67 ?_
          refine X_if_ne (tgt := 75) dX4_readAll_70 (by decide) (fun c10 => ?_) (fun c10 => ?_)
          · replace hm := iq c10 hm
            refine X_aload_n 0 dX4_readAll_75 rfl rfl rfl ?_
            refine X_getPe fl_X4_15 (g_K7 G) rfl (g_P7_2 G) dX4_readAll_76 ?_
            refine X_iload_n 1 dX4_readAll_79 rfl rfl ?_
            refine X_aload_n 0 dX4_readAll_80 rfl rfl rfl ?_
            refine X_getI fl_X4_27 (g_K7 G) rfl dX4_readAll_81 ?_
            obtain ⟨g11, hm⟩ := og hm
            refine X_iastJ (g_K9 G) g11 rfl dX4_readAll_84 ?_
            refine X_aload_n 0 dX4_readAll_85 rfl rfl rfl ?_
            refine X_getPe fl_X4_21 (g_K7 G) rfl (g_P7_0 G) dX4_readAll_86 ?_
            obtain ⟨q12, e13, hm⟩ := ob hm
            refine X_cV1 (ci := 8) (kX9_kind d (by omega) G e13) ml_X4_46 mi_X9_kind rfl cf_8 (g_K3 G) rfl rfl (Nat.le_refl _) ⟨Nat.le_refl _, Nat.le_refl _⟩ (Nat.le_of_ble_eq_true rfl) dX4_readAll_89 ?_
            refine X_bipush (v := (18 : Int32)) dX4_readAll_92 (by decide) ?_
            refine X_icmp_ne (tgt := 114) dX4_readAll_94 (by decide) (fun c14 => ?_) (fun c14 => ?_)
            · replace hm := iq c14 hm
              exact kX4_readAll_114 _ hd G ih hm
            · replace hm := ip c14 hm
              refine X_aload_n 0 dX4_readAll_97 rfl rfl rfl ?_
              refine X_getPe fl_X4_21 (g_K7 G) rfl (g_P7_0 G) dX4_readAll_98 ?_
              obtain ⟨q27, e28, hm⟩ := ob hm
              refine X_cV0 (ci := 8) (kX9_step d (by omega) G e28) ml_X4_56 mi_X9_step rfl cf_8 (g_K3 G) rfl rfl (Nat.le_refl _) ⟨Nat.le_refl _, Nat.le_refl _⟩ (Nat.le_of_ble_eq_true rfl) dX4_readAll_101 ?_
              refine X_aload_n 0 dX4_readAll_104 rfl rfl rfl ?_
              refine X_iconst (v := (0 : Int32)) dX4_readAll_105 (by decide) ?_
              obtain ⟨q29, e30, hm⟩ := ob hm
              refine X_cV1 (ci := 3) (zkX4_readTest d (by omega) G e30) ml_X4_63 mi_X4_readTest rfl cf_3 (g_K7 G) rfl rfl (Nat.le_refl _) ⟨Nat.le_refl _, Nat.le_refl _⟩ (Nat.le_of_ble_eq_true rfl) dX4_readAll_106 ?_
              refine X_if_ne (tgt := 114) dX4_readAll_109 (by decide) (fun c31 => ?_) (fun c31 => ?_)
              · replace hm := iq c31 hm
                exact kX4_readAll_114 _ hd G ih hm
              · replace hm := ip c31 hm
                refine X_iconst (v := (0 : Int32)) dX4_readAll_112 (by decide) ?_
                replace hm := Option.some.inj hm
                subst hm
                exact X_zret (v := (0 : Int32)) dX4_readAll_113 rfl (x_nz (Or.inl rfl))
          · replace hm := ip c10 hm
            refine X_iconst (v := (0 : Int32)) dX4_readAll_73 (by decide) ?_
            replace hm := Option.some.inj hm
            subst hm
            exact X_zret (v := (0 : Int32)) dX4_readAll_74 rfl (x_nz (Or.inl rfl))
        · replace hm := ip c5 hm
          refine X_aload_n 0 dX4_readAll_50 rfl rfl rfl ?_
          refine X_getPe fl_X4_21 (g_K7 G) rfl (g_P7_0 G) dX4_readAll_51 ?_
          refine X_iconst (v := (4 : Int32)) dX4_readAll_54 (by decide) ?_
          obtain ⟨q32, e33, hm⟩ := ob hm
          refine X_cV1 (ci := 8) (kX9_fail d (by omega) G e33) ml_X4_52 mi_X9_fail rfl cf_8 (g_K3 G) rfl rfl (Nat.le_refl _) ⟨Nat.le_refl _, Nat.le_refl _⟩ (Nat.le_of_ble_eq_true rfl) dX4_readAll_55 ?_
          obtain ⟨g34, hm⟩ := og hm
          replace hm := Option.some.inj hm
          subst hm
          exact X_zret dX4_readAll_58 rfl (x_nz g34)
      · replace hm := iq c4 hm
        refine X_aload_n 0 dX4_readAll_35 rfl rfl rfl ?_
        refine X_getPe fl_X4_21 (g_K7 G) rfl (g_P7_0 G) dX4_readAll_36 ?_
        refine X_iconst (v := (0 : Int32)) dX4_readAll_39 (by decide) ?_
        obtain ⟨q35, e36, hm⟩ := ob hm
        refine X_cV1 (ci := 8) (kX9_fail d (by omega) G e36) ml_X4_52 mi_X9_fail rfl cf_8 (g_K3 G) rfl rfl (Nat.le_refl _) ⟨Nat.le_refl _, Nat.le_refl _⟩ (Nat.le_of_ble_eq_true rfl) dX4_readAll_40 ?_
        obtain ⟨g37, hm⟩ := og hm
        replace hm := Option.some.inj hm
        subst hm
        exact X_zret dX4_readAll_43 rfl (x_nz g37)
def mX4_readAll  (I : Nat → Nat → Int32) : Option (Int32 × (Nat → Nat → Int32)) := (mX4_readAll_17 xf (xu (xu (xu I 7 4 (0 : Int32)) 7 5 (0 : Int32)) 7 6 (0 : Int32)) (0 : Int32))
set_option maxHeartbeats 400000 in
set_option maxRecDepth 100000 in
theorem kX4_readAll {E : xE} {B : Nat} {n : Nat} {K : Nat → Nat × Nat} {P : Nat → Nat → Nat} {I : Nat → Nat → Int32} {L : Nat → Nat → Int64}   {q : Int32 × (Nat → Nat → Int32)} (d : Nat) (hd : 78 ≤ d) (G : GW K P)   (hm : mX4_readAll I = some q) : MX E B d 0 0 yX4_readAll cX4_readAll 2 (some .boolean) [.ref 7] (n, K, P, I, L) (some (.int q.1), (n, K, P, q.2, L)) := by
  refine MX_of (lv := [(0, .ref 7)]) (by decide +kernel) (Nat.le_of_ble_eq_true rfl) rfl ?_
  obtain ⟨d, rfl⟩ : ∃ d0, d = d0 + 1 := ⟨d - 1, by omega⟩
  unfold mX4_readAll at hm
  refine X_aload_n 0 dX4_readAll_0 rfl rfl rfl ?_
  refine X_iconst (v := (0 : Int32)) dX4_readAll_1 (by decide) ?_
  refine X_putI fl_X4_27 (g_K7 G) rfl rfl dX4_readAll_2 ?_
  refine X_aload_n 0 dX4_readAll_5 rfl rfl rfl ?_
  refine X_iconst (v := (0 : Int32)) dX4_readAll_6 (by decide) ?_
  refine X_putI fl_X4_37 (g_K7 G) rfl rfl dX4_readAll_7 ?_
  refine X_aload_n 0 dX4_readAll_10 rfl rfl rfl ?_
  refine X_iconst (v := (0 : Int32)) dX4_readAll_11 (by decide) ?_
  refine X_putI fl_X4_43 (g_K7 G) rfl rfl dX4_readAll_12 ?_
  refine X_iconst (v := (0 : Int32)) dX4_readAll_15 (by decide) ?_
  refine X_istore_n (lv' := [(1, .int (0 : Int32)), (0, .ref 7)]) dX4_readAll_16 rfl (by decide) rfl ?_
  refine X_lv [1, 0] rfl (kX4_readAll_17 _ hd G xf _ _  hm)

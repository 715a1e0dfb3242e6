def mX11_commonDivisor_4   : Nat → Int32 → Int32 → Int32 → Int32 → Option (Int32)
  | 0, _, _, _, _ => none
  | f + 1, a0, a1, a2, a3 => (if a1 < a3 then (some a2) else (if ¬ a3 = 0 then (if (xrem a0 a3) = 0 then (if ¬ a3 = 0 then (if (xrem a1 a3) = 0 then (mX11_commonDivisor_4 f a0 a1 a3 (a3 + 1)) else (mX11_commonDivisor_4 f a0 a1 a2 (a3 + 1))) else none) else (mX11_commonDivisor_4 f a0 a1 a2 (a3 + 1))) else none))
set_option maxHeartbeats 400000 in
set_option maxRecDepth 100000 in
theorem kX11_commonDivisor_4 {E : xE} {B : Nat} {n : Nat} {K : Nat → Nat × Nat} {P : Nat → Nat → Nat} {I : Nat → Nat → Int32} {L : Nat → Nat → Int64}   {q : Int32} (d : Nat) (hd : 0 ≤ d) (G : GW K P)   : ∀ (f : Nat) (a0 : Int32) (a1 : Int32) (a2 : Int32) (a3 : Int32), mX11_commonDivisor_4 f a0 a1 a2 a3 = some q → X E B d 0 0 yX11_commonDivisor cX11_commonDivisor 4 (some .int) (some (.int q), (n, K, P, I, L)) 4 [(0, .int a0), (1, .int a1), (2, .int a2), (3, .int a3)] [] 0 0 (n, K, P, I, L) := by
  intro f
  induction f with
  | zero => intro _ _ _ _ hm; exact nomatch (show (none : Option (Int32)) = some q from hm)
  | succ f ih =>
    intro a0 a1 a2 a3 hm
    rw [mX11_commonDivisor_4] at hm
    refine X_iload_n 3 dX11_commonDivisor_4 rfl rfl ?_
    refine X_iload_n 1 dX11_commonDivisor_5 rfl rfl ?_
    refine X_icmp_gt (tgt := 29) dX11_commonDivisor_6 (by decide) (fun c1 => ?_) (fun c1 => ?_)
    · replace hm := ip c1 hm
      refine X_iload_n 2 dX11_commonDivisor_29 rfl rfl ?_
      replace hm := Option.some.inj hm
      subst hm
      exact X_iret dX11_commonDivisor_30 rfl
    · replace hm := iq c1 hm
      refine X_iload_n 0 dX11_commonDivisor_9 rfl rfl ?_
      refine X_iload_n 3 dX11_commonDivisor_10 rfl rfl ?_
      obtain ⟨g5, hm⟩ := og hm
      refine X_irem dX11_commonDivisor_11 g5 ?_
      refine X_if_ne (tgt := 23) dX11_commonDivisor_12 (by decide) (fun c2 => ?_) (fun c2 => ?_)
      · replace hm := iq c2 hm
        refine X_iinc (lv' := [(3, .int (a3 + 1)), (0, .int a0), (1, .int a1), (2, .int a2)]) 3 dX11_commonDivisor_23 rfl rfl (by decide) rfl ?_
        refine X_goto (tgt := 4) dX11_commonDivisor_26 (by decide) ?_
        exact X_lv [1, 2, 3, 0] rfl (ih _ _ _ _ hm)
      · replace hm := ip c2 hm
        refine X_iload_n 1 dX11_commonDivisor_15 rfl rfl ?_
        refine X_iload_n 3 dX11_commonDivisor_16 rfl rfl ?_
        obtain ⟨g4, hm⟩ := og hm
        refine X_irem dX11_commonDivisor_17 g4 ?_
        refine X_if_ne (tgt := 23) dX11_commonDivisor_18 (by decide) (fun c3 => ?_) (fun c3 => ?_)
        · replace hm := iq c3 hm
          refine X_iinc (lv' := [(3, .int (a3 + 1)), (0, .int a0), (1, .int a1), (2, .int a2)]) 3 dX11_commonDivisor_23 rfl rfl (by decide) rfl ?_
          refine X_goto (tgt := 4) dX11_commonDivisor_26 (by decide) ?_
          exact X_lv [1, 2, 3, 0] rfl (ih _ _ _ _ hm)
        · replace hm := ip c3 hm
          refine X_iload_n 3 dX11_commonDivisor_21 rfl rfl ?_
          refine X_istore_n (lv' := [(2, .int a3), (0, .int a0), (1, .int a1), (3, .int a3)]) dX11_commonDivisor_22 rfl (by decide) rfl ?_
          refine X_iinc (lv' := [(3, .int (a3 + 1)), (2, .int a3), (0, .int a0), (1, .int a1)]) 3 dX11_commonDivisor_23 rfl rfl (by decide) rfl ?_
          refine X_goto (tgt := 4) dX11_commonDivisor_26 (by decide) ?_
          exact X_lv [2, 3, 1, 0] rfl (ih _ _ _ _ hm)
def mX11_commonDivisor  (a0 : Int32) (a1 : Int32) : Option (Int32) := (mX11_commonDivisor_4 xf a0 a1 (0 : Int32) (1 : Int32))
set_option maxHeartbeats 400000 in
set_option maxRecDepth 100000 in
theorem kX11_commonDivisor {E : xE} {B : Nat} {n : Nat} {K : Nat → Nat × Nat} {P : Nat → Nat → Nat} {I : Nat → Nat → Int32} {L : Nat → Nat → Int64}  {a0 : Int32} {a1 : Int32} {q : Int32} (d : Nat) (hd : 0 ≤ d) (G : GW K P)   (hm : mX11_commonDivisor a0 a1 = some q) : MX E B d 0 0 yX11_commonDivisor cX11_commonDivisor 4 (some .int) [.int a0, .int a1] (n, K, P, I, L) (some (.int q), (n, K, P, I, L)) := by
  refine MX_of (lv := [(0, .int a0), (1, .int a1)]) (by decide +kernel) (Nat.le_of_ble_eq_true rfl) rfl ?_
  unfold mX11_commonDivisor at hm
  refine X_iconst (v := (0 : Int32)) dX11_commonDivisor_0 (by decide) ?_
  refine X_istore_n (lv' := [(2, .int (0 : Int32)), (0, .int a0), (1, .int a1)]) dX11_commonDivisor_1 rfl (by decide) rfl ?_
  refine X_iconst (v := (1 : Int32)) dX11_commonDivisor_2 (by decide) ?_
  refine X_istore_n (lv' := [(3, .int (1 : Int32)), (2, .int (0 : Int32)), (0, .int a0), (1, .int a1)]) dX11_commonDivisor_3 rfl (by decide) rfl ?_
  refine X_lv [2, 3, 1, 0] rfl (kX11_commonDivisor_4 _ hd G xf _ _ _ _  hm)
def mX11_share (P : Nat → Nat → Nat) (I : Nat → Nat → Int32) (L : Nat → Nat → Int64) (a1 : Int32) (a2 : Int32) (a3 : Int32) : Option (Int32) := (Option.bind (mX11_isPainter P I a1) (fun q1 => (if q1 = 0 then (some (-1 : Int32)) else (Option.bind (mX11_isThing P I a2) (fun q4 => (if q4 = 0 then (some (-1 : Int32)) else (Option.bind (mX11_isWithin a3 (0 : Int32) (1 : Int32)) (fun q7 => (if q7 = 0 then (some (-1 : Int32)) else (Option.bind (mX7_tallyOf I L (P 12 0) 24 a2) (fun q10 => (Option.bind (mX7_countOf q10 a1) (fun q12 => (if inb a2 4 = true then (Option.bind (mX11_commonDivisor q12 (I ((P 12 0) + 2) (ix a2))) (fun q15 => (if q15 = 0 then (some (-1 : Int32)) else (if a3 = 0 then (if ¬ q15 = 0 then (some (q12 / q15)) else none) else (if ¬ q15 = 0 then (some ((I ((P 12 0) + 2) (ix a2)) / q15)) else none))))) else none))))))))))))))
set_option maxHeartbeats 400000 in
set_option maxRecDepth 100000 in
theorem kX11_share {E : xE} {B : Nat} {n : Nat} {K : Nat → Nat × Nat} {P : Nat → Nat → Nat} {I : Nat → Nat → Int32} {L : Nat → Nat → Int64}  {a1 : Int32} {a2 : Int32} {a3 : Int32} {q : Int32} (d : Nat) (hd : 4 ≤ d) (G : GW K P)   (hm : mX11_share P I L a1 a2 a3 = some q) : MX E B d 0 0 yX11_share cX11_share 7 (some .int) [.ref 1, .int a1, .int a2, .int a3] (n, K, P, I, L) (some (.int q), (n, K, P, I, L)) := by
  refine MX_of (lv := [(0, .ref 1), (1, .int a1), (2, .int a2), (3, .int a3)]) (by decide +kernel) (Nat.le_of_ble_eq_true rfl) rfl ?_
  obtain ⟨d, rfl⟩ : ∃ d0, d = d0 + 1 := ⟨d - 1, by omega⟩
  unfold mX11_share at hm
  refine X_aload_n 0 dX11_share_0 rfl rfl rfl ?_
  refine X_iload_n 1 dX11_share_1 rfl rfl ?_
  obtain ⟨q1, e2, hm⟩ := ob hm
  refine X_cV1 (ci := 10) (kX11_isPainter d (by omega) G e2) ml_X11_183 mi_X11_isPainter rfl cf_10 (g_K1 G) rfl rfl (Nat.le_refl _) ⟨Nat.le_refl _, Nat.le_refl _⟩ (Nat.le_of_ble_eq_true rfl) dX11_share_2 ?_
  refine X_if_eq (tgt := 25) dX11_share_5 (by decide) (fun c3 => ?_) (fun c3 => ?_)
  · replace hm := ip c3 hm
    refine X_iconst (v := (-1 : Int32)) dX11_share_25 (by decide) ?_
    replace hm := Option.some.inj hm
    subst hm
    exact X_iret dX11_share_26 rfl
  · replace hm := iq c3 hm
    refine X_aload_n 0 dX11_share_8 rfl rfl rfl ?_
    refine X_iload_n 2 dX11_share_9 rfl rfl ?_
    obtain ⟨q4, e5, hm⟩ := ob hm
    refine X_cV1 (ci := 10) (kX11_isThing d (by omega) G e5) ml_X11_192 mi_X11_isThing rfl cf_10 (g_K1 G) rfl rfl (Nat.le_refl _) ⟨Nat.le_refl _, Nat.le_refl _⟩ (Nat.le_of_ble_eq_true rfl) dX11_share_10 ?_
    refine X_if_eq (tgt := 25) dX11_share_13 (by decide) (fun c6 => ?_) (fun c6 => ?_)
    · replace hm := ip c6 hm
      refine X_iconst (v := (-1 : Int32)) dX11_share_25 (by decide) ?_
      replace hm := Option.some.inj hm
      subst hm
      exact X_iret dX11_share_26 rfl
    · replace hm := iq c6 hm
      refine X_iload_n 3 dX11_share_16 rfl rfl ?_
      refine X_iconst (v := (0 : Int32)) dX11_share_17 (by decide) ?_
      refine X_iconst (v := (1 : Int32)) dX11_share_18 (by decide) ?_
      obtain ⟨q7, e8, hm⟩ := ob hm
      refine X_cS1 (kX11_isWithin d (by omega) G e8) ml_X11_285 ms_X11_isWithin rfl rfl (Nat.le_refl _) ⟨Nat.le_refl _, Nat.le_refl _⟩ (Nat.le_of_ble_eq_true rfl) dX11_share_19 ?_
      refine X_if_ne (tgt := 27) dX11_share_22 (by decide) (fun c9 => ?_) (fun c9 => ?_)
      · replace hm := iq c9 hm
        refine X_aload_n 0 dX11_share_27 rfl rfl rfl ?_
        refine X_getPe fl_X11_38 (g_K1 G) rfl (g_P1_6 G) dX11_share_28 ?_
        refine X_getP fl_X11_116 (g_K12 G) rfl dX11_share_31 ?_
        refine X_aload_n 0 dX11_share_34 rfl rfl rfl ?_
        refine X_getPe fl_X11_38 (g_K1 G) rfl (g_P1_6 G) dX11_share_35 ?_
        refine X_getPe fl_X11_142 (g_K12 G) rfl (g_P12_1 G) dX11_share_38 ?_
        refine X_iload_n 2 dX11_share_41 rfl rfl ?_
        obtain ⟨q10, e11, hm⟩ := ob hm
        refine X_cV1 (ci := 6) (kX7_tallyOf d (by omega) G (gl9_st G (g_K12 G)) (g_K24 G) e11) ml_X11_362 mi_X7_tallyOf rfl cf_6 (gl9_st G (g_K12 G)) rfl rfl (Nat.le_refl _) ⟨Nat.le_refl _, Nat.le_refl _⟩ (Nat.le_of_ble_eq_true rfl) dX11_share_42 ?_
        refine X_iload_n 1 dX11_share_45 rfl rfl ?_
        obtain ⟨q12, e13, hm⟩ := ob hm
        refine X_cS1 (kX7_countOf d (by omega) G e13) ml_X11_365 ms_X7_countOf rfl rfl (Nat.le_refl _) ⟨Nat.le_refl _, Nat.le_refl _⟩ (Nat.le_of_ble_eq_true rfl) dX11_share_46 ?_
        refine X_istore (lv' := [(4, .int q12), (0, .ref 1), (1, .int a1), (2, .int a2), (3, .int a3)]) dX11_share_49 (by decide) rfl ?_
        refine X_aload_n 1 dX11_share_51 rfl rfl rfl ?_
        refine X_getPe fl_X11_38 (g_K1 G) rfl (g_P1_6 G) dX11_share_52 ?_
        refine X_getP fl_X11_116 (g_K12 G) rfl dX11_share_55 ?_
        refine X_getPe fl_X11_198 (gl9_st G (g_K12 G)) rfl (gl6_P10 G (gl9_st G (g_K12 G))) dX11_share_58 ?_
        refine X_iload_n 3 dX11_share_61 rfl rfl ?_
        obtain ⟨g14, hm⟩ := og hm
        refine X_ialdJ (gl6_K2 G (gl9_st G (g_K12 G))) g14 rfl dX11_share_62 ?_
        refine X_istore (lv' := [(5, .int (I ((P 12 0) + 2) (ix a2))), (4, .int q12), (0, .ref 1), (1, .int a1), (2, .int a2), (3, .int a3)]) dX11_share_63 (by decide) rfl ?_
        refine X_iload 1 dX11_share_65 rfl ?_
        refine X_iload 0 dX11_share_67 rfl ?_
        obtain ⟨q15, e16, hm⟩ := ob hm
        refine X_cS1 (kX11_commonDivisor d (by omega) G e16) ml_X11_368 ms_X11_commonDivisor rfl rfl (Nat.le_refl _) ⟨Nat.le_refl _, Nat.le_refl _⟩ (Nat.le_of_ble_eq_true rfl) dX11_share_69 ?_
        refine X_istore (lv' := [(6, .int q15), (5, .int (I ((P 12 0) + 2) (ix a2))), (4, .int q12), (0, .ref 1), (1, .int a1), (2, .int a2), (3, .int a3)]) dX11_share_72 (by decide) rfl ?_
        refine X_iload 0 dX11_share_74 rfl ?_
        refine X_if_ne (tgt := 81) dX11_share_76 (by decide) (fun c17 => ?_) (fun c17 => ?_)
        · replace hm := iq c17 hm
          refine X_iload_n 6 dX11_share_81 rfl rfl ?_
          refine X_if_ne (tgt := 90) dX11_share_82 (by decide) (fun c18 => ?_) (fun c18 => ?_)
          · replace hm := iq c18 hm
            refine X_iload 1 dX11_share_90 rfl ?_
            refine X_iload 0 dX11_share_92 rfl ?_
            obtain ⟨g19, hm⟩ := og hm
            refine X_idiv dX11_share_94 g19 ?_
            replace hm := Option.some.inj hm
            subst hm
            exact X_iret dX11_share_95 rfl
          · replace hm := ip c18 hm
            refine X_iload 2 dX11_share_85 rfl ?_
            refine X_goto (tgt := 92) dX11_share_87 (by decide) ?_
            refine X_iload 0 dX11_share_92 rfl ?_
            obtain ⟨g20, hm⟩ := og hm
            refine X_idiv dX11_share_94 g20 ?_
            replace hm := Option.some.inj hm
            subst hm
            exact X_iret dX11_share_95 rfl
        · replace hm := ip c17 hm
          refine X_iconst (v := (-1 : Int32)) dX11_share_79 (by decide) ?_
          replace hm := Option.some.inj hm
          subst hm
          exact X_iret dX11_share_80 rfl
      · replace hm := ip c9 hm
        refine X_iconst (v := (-1 : Int32)) dX11_share_25 (by decide) ?_
        replace hm := Option.some.inj hm
        subst hm
        exact X_iret dX11_share_26 rfl
def mX11_then_58 (P : Nat → Nat → Nat) (I : Nat → Nat → Int32) (L : Nat → Nat → Int64)  : Nat → Int32 → Int32 → Int32 → Int32 → Int32 → Option (Int32)
  | 0, _, _, _, _, _ => none
  | f + 1, a1, a2, a3, a4, a5 => (if a3 ≤ a5 then (Option.bind (mX7_ownerBy a4 a3 (I (P 12 0) 2)) (fun q12 => (some q12))) else (if inb a1 4 = true then (if inb ((I ((P 12 0) + 1) (ix a1)) + a5) 16 = true then (Option.bind (mX0_aheadOf (L 25 (ix ((I ((P 12 0) + 1) (ix a1)) + a5))) a2) (fun q16 => (Option.bind (mX7_ownerOf I (P 12 0) q16 a2) (fun q18 => (Option.bind (mX7_oneFor q18) (fun q20 => (mX11_then_58 P I L f a1 a2 a3 (a4 + q20) (a5 + 1)))))))) else none) else none))
set_option maxHeartbeats 400000 in
set_option maxRecDepth 100000 in
theorem kX11_then_58 {E : xE} {B : Nat} {n : Nat} {K : Nat → Nat × Nat} {P : Nat → Nat → Nat} {I : Nat → Nat → Int32} {L : Nat → Nat → Int64}   {q : Int32} (d : Nat) (hd : 3 ≤ d) (G : GW K P)   : ∀ (f : Nat) (a1 : Int32) (a2 : Int32) (a3 : Int32) (a4 : Int32) (a5 : Int32), mX11_then_58 P I L f a1 a2 a3 a4 a5 = some q → X E B d 0 0 yX11_then cX11_then 8 (some .int) (some (.int q), (n, K, P, I, L)) 58 [(0, .ref 1), (1, .int a1), (2, .int a2), (3, .int a3), (4, .int a4), (5, .int a5)] [] 0 0 (n, K, P, I, L) := by
  obtain ⟨d, rfl⟩ : ∃ d0, d = d0 + 1 := ⟨d - 1, by omega⟩
  intro f
  induction f with
  | zero => intro _ _ _ _ _ hm; exact nomatch (show (none : Option (Int32)) = some q from hm)
  | succ f ih =>
    intro a1 a2 a3 a4 a5 hm
    rw [mX11_then_58] at hm
    refine X_iload 5 dX11_then_58 rfl ?_
    refine X_iload_n 3 dX11_then_60 rfl rfl ?_
    refine X_icmp_ge (tgt := 123) dX11_then_61 (by decide) (fun c11 => ?_) (fun c11 => ?_)
    · replace hm := ip c11 hm
      refine X_iload 4 dX11_then_123 rfl ?_
      refine X_iload_n 3 dX11_then_125 rfl rfl ?_
      refine X_aload_n 0 dX11_then_126 rfl rfl rfl ?_
      refine X_getPe fl_X11_38 (g_K1 G) rfl (g_P1_6 G) dX11_then_127 ?_
      refine X_getP fl_X11_116 (g_K12 G) rfl dX11_then_130 ?_
      refine X_getI fl_X11_248 (gl9_st G (g_K12 G)) rfl dX11_then_133 ?_
      obtain ⟨q12, e13, hm⟩ := ob hm
      refine X_cS1 (kX7_ownerBy d (by omega) G e13) ml_X11_334 ms_X7_ownerBy rfl rfl (Nat.le_refl _) ⟨Nat.le_refl _, Nat.le_refl _⟩ (Nat.le_of_ble_eq_true rfl) dX11_then_136 ?_
      replace hm := Option.some.inj hm
      subst hm
      exact X_iret dX11_then_139 rfl
    · replace hm := iq c11 hm
      refine X_aload_n 0 dX11_then_64 rfl rfl rfl ?_
      refine X_getPe fl_X11_38 (g_K1 G) rfl (g_P1_6 G) dX11_then_65 ?_
      refine X_getPe fl_X11_142 (g_K12 G) rfl (g_P12_1 G) dX11_then_68 ?_
      refine X_getPe fl_X11_152 (g_K24 G) rfl (g_P24_0 G) dX11_then_71 ?_
      refine X_aload_n 0 dX11_then_74 rfl rfl rfl ?_
      refine X_getPe fl_X11_38 (g_K1 G) rfl (g_P1_6 G) dX11_then_75 ?_
      refine X_getP fl_X11_116 (g_K12 G) rfl dX11_then_78 ?_
      refine X_getPe fl_X11_195 (gl9_st G (g_K12 G)) rfl (gl6_P9 G (gl9_st G (g_K12 G))) dX11_then_81 ?_
      refine X_iload_n 1 dX11_then_84 rfl rfl ?_
      obtain ⟨g14, hm⟩ := og hm
      refine X_ialdJ (gl6_K1 G (gl9_st G (g_K12 G))) g14 rfl dX11_then_85 ?_
      refine X_iload 5 dX11_then_86 rfl ?_
      refine X_iadd dX11_then_88 ?_
      obtain ⟨g15, hm⟩ := og hm
      refine X_laldJ (g_K25 G) g15 rfl dX11_then_89 ?_
      refine X_iload_n 2 dX11_then_90 rfl rfl ?_
      obtain ⟨q16, e17, hm⟩ := ob hm
      refine X_cS1 (kX0_aheadOf d (by omega) G e17) ml_X11_371 ms_X0_aheadOf rfl rfl (Nat.le_refl _) ⟨Nat.le_refl _, Nat.le_refl _⟩ (Nat.le_of_ble_eq_true rfl) dX11_then_91 ?_
      refine X_lstore (lv' := [(6, .long q16), (0, .ref 1), (1, .int a1), (2, .int a2), (3, .int a3), (4, .int a4), (5, .int a5)]) dX11_then_94 (by decide) rfl ?_
      refine X_iload 5 dX11_then_96 rfl ?_
      refine X_aload_n 1 dX11_then_98 rfl rfl rfl ?_
      refine X_getPe fl_X11_38 (g_K1 G) rfl (g_P1_6 G) dX11_then_99 ?_
      refine X_getP fl_X11_116 (g_K12 G) rfl dX11_then_102 ?_
      refine X_lload 0 dX11_then_105 rfl ?_
      refine X_iload_n 3 dX11_then_107 rfl rfl ?_
      obtain ⟨q18, e19, hm⟩ := ob hm
      refine X_cV1 (ci := 6) (kX7_ownerOf d (by omega) G (gl9_st G (g_K12 G)) e19) ml_X11_168 mi_X7_ownerOf rfl cf_6 (gl9_st G (g_K12 G)) rfl rfl (Nat.le_refl _) ⟨Nat.le_refl _, Nat.le_refl _⟩ (Nat.le_of_ble_eq_true rfl) dX11_then_108 ?_
      obtain ⟨q20, e21, hm⟩ := ob hm
      refine X_cS1 (kX7_oneFor d (by omega) G e21) ml_X11_331 ms_X7_oneFor rfl rfl (Nat.le_refl _) ⟨Nat.le_refl _, Nat.le_refl _⟩ (Nat.le_of_ble_eq_true rfl) dX11_then_111 ?_
      refine X_iadd dX11_then_114 ?_
      refine X_istore (lv' := [(4, .int (a4 + q20)), (6, .long q16), (0, .ref 1), (1, .int a1), (2, .int a2), (3, .int a3), (5, .int a5)]) dX11_then_115 (by decide) rfl ?_
      refine X_iinc (lv' := [(5, .int (a5 + 1)), (4, .int (a4 + q20)), (6, .long q16), (0, .ref 1), (1, .int a1), (2, .int a2), (3, .int a3)]) 6 dX11_then_117 rfl rfl (by decide) rfl ?_
      refine X_goto (tgt := 58) dX11_then_120 (by decide) ?_
      exact X_lv [3, 4, 5, 6, 1, 0] rfl (ih _ _ _ _ _ hm)
def mX11_then (P : Nat → Nat → Nat) (I : Nat → Nat → Int32) (L : Nat → Nat → Int64) (a1 : Int32) (a2 : Int32) : Option (Int32) := (Option.bind (mX11_isThing P I a1) (fun q1 => (if q1 = 0 then (some (-2 : Int32)) else (Option.bind (mX11_isWithin a2 (0 : Int32) (I 24 2)) (fun q4 => (if q4 = 0 then (some (-2 : Int32)) else (Option.bind (mX11_isBare I a1) (fun q7 => (if q7 = 0 then (if inb a1 4 = true then (mX11_then_58 P I L xf a1 a2 (I ((P 12 0) + 2) (ix a1)) (0 : Int32) (0 : Int32)) else none) else (some (-1 : Int32)))))))))))
set_option maxHeartbeats 400000 in
set_option maxRecDepth 100000 in
theorem kX11_then {E : xE} {B : Nat} {n : Nat} {K : Nat → Nat × Nat} {P : Nat → Nat → Nat} {I : Nat → Nat → Int32} {L : Nat → Nat → Int64}  {a1 : Int32} {a2 : Int32} {q : Int32} (d : Nat) (hd : 3 ≤ d) (G : GW K P)   (hm : mX11_then P I L a1 a2 = some q) : MX E B d 0 0 yX11_then cX11_then 8 (some .int) [.ref 1, .int a1, .int a2] (n, K, P, I, L) (some (.int q), (n, K, P, I, L)) := by
  refine MX_of (lv := [(0, .ref 1), (1, .int a1), (2, .int a2)]) (by decide +kernel) (Nat.le_of_ble_eq_true rfl) rfl ?_
  obtain ⟨d, rfl⟩ : ∃ d0, d = d0 + 1 := ⟨d - 1, by omega⟩
  unfold mX11_then at hm
  refine X_aload_n 0 dX11_then_0 rfl rfl rfl ?_
  refine X_iload_n 1 dX11_then_1 rfl rfl ?_
  obtain ⟨q1, e2, hm⟩ := ob hm
  refine X_cV1 (ci := 10) (kX11_isThing d (by omega) G e2) ml_X11_192 mi_X11_isThing rfl cf_10 (g_K1 G) rfl rfl (Nat.le_refl _) ⟨Nat.le_refl _, Nat.le_refl _⟩ (Nat.le_of_ble_eq_true rfl) dX11_then_2 ?_
  refine X_if_eq (tgt := 26) dX11_then_5 (by decide) (fun c3 => ?_) (fun c3 => ?_)
  · replace hm := ip c3 hm
    refine X_bipush (v := (-2 : Int32)) dX11_then_26 (by decide) ?_
    replace hm := Option.some.inj hm
    subst hm
    exact X_iret dX11_then_28 rfl
  · replace hm := iq c3 hm
    refine X_iload_n 2 dX11_then_8 rfl rfl ?_
    refine X_iconst (v := (0 : Int32)) dX11_then_9 (by decide) ?_
    refine X_aload_n 0 dX11_then_10 rfl rfl rfl ?_
    refine X_getPe fl_X11_38 (g_K1 G) rfl (g_P1_6 G) dX11_then_11 ?_
    refine X_getPe fl_X11_142 (g_K12 G) rfl (g_P12_1 G) dX11_then_14 ?_
    refine X_getI fl_X11_165 (g_K24 G) rfl dX11_then_17 ?_
    obtain ⟨q4, e5, hm⟩ := ob hm
    refine X_cS1 (kX11_isWithin d (by omega) G e5) ml_X11_285 ms_X11_isWithin rfl rfl (Nat.le_refl _) ⟨Nat.le_refl _, Nat.le_refl _⟩ (Nat.le_of_ble_eq_true rfl) dX11_then_20 ?_
    refine X_if_ne (tgt := 29) dX11_then_23 (by decide) (fun c6 => ?_) (fun c6 => ?_)
    · replace hm := iq c6 hm
      refine X_aload_n 0 dX11_then_29 rfl rfl rfl ?_
      refine X_iload_n 1 dX11_then_30 rfl rfl ?_
      obtain ⟨q7, e8, hm⟩ := ob hm
      refine X_cV1 (ci := 10) (kX11_isBare d (by omega) G e8) ml_X11_208 mi_X11_isBare rfl cf_10 (g_K1 G) rfl rfl (Nat.le_refl _) ⟨Nat.le_refl _, Nat.le_refl _⟩ (Nat.le_of_ble_eq_true rfl) dX11_then_31 ?_
      refine X_if_eq (tgt := 39) dX11_then_34 (by decide) (fun c9 => ?_) (fun c9 => ?_)
      · replace hm := ip c9 hm
        refine X_aload_n 0 dX11_then_39 rfl rfl rfl ?_
        refine X_getPe fl_X11_38 (g_K1 G) rfl (g_P1_6 G) dX11_then_40 ?_
        refine X_getP fl_X11_116 (g_K12 G) rfl dX11_then_43 ?_
        refine X_getPe fl_X11_198 (gl9_st G (g_K12 G)) rfl (gl6_P10 G (gl9_st G (g_K12 G))) dX11_then_46 ?_
        refine X_iload_n 1 dX11_then_49 rfl rfl ?_
        obtain ⟨g10, hm⟩ := og hm
        refine X_ialdJ (gl6_K2 G (gl9_st G (g_K12 G))) g10 rfl dX11_then_50 ?_
        refine X_istore_n (lv' := [(3, .int (I ((P 12 0) + 2) (ix a1))), (0, .ref 1), (1, .int a1), (2, .int a2)]) dX11_then_51 rfl (by decide) rfl ?_
        refine X_iconst (v := (0 : Int32)) dX11_then_52 (by decide) ?_
        refine X_istore (lv' := [(4, .int (0 : Int32)), (3, .int (I ((P 12 0) + 2) (ix a1))), (0, .ref 1), (1, .int a1), (2, .int a2)]) dX11_then_53 (by decide) rfl ?_
        refine X_iconst (v := (0 : Int32)) dX11_then_55 (by decide) ?_
        refine X_istore (lv' := [(5, .int (0 : Int32)), (4, .int (0 : Int32)), (3, .int (I ((P 12 0) + 2) (ix a1))), (0, .ref 1), (1, .int a1), (2, .int a2)]) dX11_then_56 (by decide) rfl ?_
        refine X_lv [3, 4, 5, 2, 1, 0] rfl (kX11_then_58 _ hd G xf _ _ _ _ _  hm)
      · replace hm := iq c9 hm
        refine X_iconst (v := (-1 : Int32)) dX11_then_37 (by decide) ?_
        replace hm := Option.some.inj hm
        subst hm
        exact X_iret dX11_then_38 rfl
    · replace hm := ip c6 hm
      refine X_bipush (v := (-2 : Int32)) dX11_then_26 (by decide) ?_
      replace hm := Option.some.inj hm
      subst hm
      exact X_iret dX11_then_28 rfl
def mX11_byPart (P : Nat → Nat → Nat) (I : Nat → Nat → Int32) (L : Nat → Nat → Int64) (a1 : Int32) (a2 : Int32) : Option (Int32) := (Option.bind (mX11_isThing P I a1) (fun q1 => (if q1 = 0 then (some (-2 : Int32)) else (Option.bind (mX11_isWithin a2 (1 : Int32) (100 : Int32)) (fun q4 => (if q4 = 0 then (some (-2 : Int32)) else (Option.bind (mX7_tallyOf I L (P 12 0) 24 a1) (fun q7 => (if inb a1 4 = true then (Option.bind (mX7_ownerBy q7 (I ((P 12 0) + 2) (ix a1)) a2) (fun q10 => (some q10))) else none)))))))))
set_option maxHeartbeats 400000 in
set_option maxRecDepth 100000 in
theorem kX11_byPart {E : xE} {B : Nat} {n : Nat} {K : Nat → Nat × Nat} {P : Nat → Nat → Nat} {I : Nat → Nat → Int32} {L : Nat → Nat → Int64}  {a1 : Int32} {a2 : Int32} {q : Int32} (d : Nat) (hd : 4 ≤ d) (G : GW K P)   (hm : mX11_byPart P I L a1 a2 = some q) : MX E B d 0 0 yX11_byPart cX11_byPart 3 (some .int) [.ref 1, .int a1, .int a2] (n, K, P, I, L) (some (.int q), (n, K, P, I, L)) := by
  refine MX_of (lv := [(0, .ref 1), (1, .int a1), (2, .int a2)]) (by decide +kernel) (Nat.le_of_ble_eq_true rfl) rfl ?_
  obtain ⟨d, rfl⟩ : ∃ d0, d = d0 + 1 := ⟨d - 1, by omega⟩
  unfold mX11_byPart at hm
  refine X_aload_n 0 dX11_byPart_0 rfl rfl rfl ?_
  refine X_iload_n 1 dX11_byPart_1 rfl rfl ?_
  obtain ⟨q1, e2, hm⟩ := ob hm
  refine X_cV1 (ci := 10) (kX11_isThing d (by omega) G e2) ml_X11_192 mi_X11_isThing rfl cf_10 (g_K1 G) rfl rfl (Nat.le_refl _) ⟨Nat.le_refl _, Nat.le_refl _⟩ (Nat.le_of_ble_eq_true rfl) dX11_byPart_2 ?_
  refine X_if_eq (tgt := 18) dX11_byPart_5 (by decide) (fun c3 => ?_) (fun c3 => ?_)
  · replace hm := ip c3 hm
    refine X_bipush (v := (-2 : Int32)) dX11_byPart_18 (by decide) ?_
    replace hm := Option.some.inj hm
    subst hm
    exact X_iret dX11_byPart_20 rfl
  · replace hm := iq c3 hm
    refine X_iload_n 2 dX11_byPart_8 rfl rfl ?_
    refine X_iconst (v := (1 : Int32)) dX11_byPart_9 (by decide) ?_
    refine X_bipush (v := (100 : Int32)) dX11_byPart_10 (by decide) ?_
    obtain ⟨q4, e5, hm⟩ := ob hm
    refine X_cS1 (kX11_isWithin d (by omega) G e5) ml_X11_285 ms_X11_isWithin rfl rfl (Nat.le_refl _) ⟨Nat.le_refl _, Nat.le_refl _⟩ (Nat.le_of_ble_eq_true rfl) dX11_byPart_12 ?_
    refine X_if_ne (tgt := 21) dX11_byPart_15 (by decide) (fun c6 => ?_) (fun c6 => ?_)
    · replace hm := iq c6 hm
      refine X_aload_n 0 dX11_byPart_21 rfl rfl rfl ?_
      refine X_getPe fl_X11_38 (g_K1 G) rfl (g_P1_6 G) dX11_byPart_22 ?_
      refine X_getP fl_X11_116 (g_K12 G) rfl dX11_byPart_25 ?_
      refine X_aload_n 0 dX11_byPart_28 rfl rfl rfl ?_
      refine X_getPe fl_X11_38 (g_K1 G) rfl (g_P1_6 G) dX11_byPart_29 ?_
      refine X_getPe fl_X11_142 (g_K12 G) rfl (g_P12_1 G) dX11_byPart_32 ?_
      refine X_iload_n 1 dX11_byPart_35 rfl rfl ?_
      obtain ⟨q7, e8, hm⟩ := ob hm
      refine X_cV1 (ci := 6) (kX7_tallyOf d (by omega) G (gl9_st G (g_K12 G)) (g_K24 G) e8) ml_X11_362 mi_X7_tallyOf rfl cf_6 (gl9_st G (g_K12 G)) rfl rfl (Nat.le_refl _) ⟨Nat.le_refl _, Nat.le_refl _⟩ (Nat.le_of_ble_eq_true rfl) dX11_byPart_36 ?_
      refine X_aload_n 0 dX11_byPart_39 rfl rfl rfl ?_
      refine X_getPe fl_X11_38 (g_K1 G) rfl (g_P1_6 G) dX11_byPart_40 ?_
      refine X_getP fl_X11_116 (g_K12 G) rfl dX11_byPart_43 ?_
      refine X_getPe fl_X11_198 (gl9_st G (g_K12 G)) rfl (gl6_P10 G (gl9_st G (g_K12 G))) dX11_byPart_46 ?_
      refine X_iload_n 1 dX11_byPart_49 rfl rfl ?_
      obtain ⟨g9, hm⟩ := og hm
      refine X_ialdJ (gl6_K2 G (gl9_st G (g_K12 G))) g9 rfl dX11_byPart_50 ?_
      refine X_iload_n 2 dX11_byPart_51 rfl rfl ?_
      obtain ⟨q10, e11, hm⟩ := ob hm
      refine X_cS1 (kX7_ownerBy d (by omega) G e11) ml_X11_334 ms_X7_ownerBy rfl rfl (Nat.le_refl _) ⟨Nat.le_refl _, Nat.le_refl _⟩ (Nat.le_of_ble_eq_true rfl) dX11_byPart_52 ?_
      replace hm := Option.some.inj hm
      subst hm
      exact X_iret dX11_byPart_55 rfl
    · replace hm := ip c6 hm
      refine X_bipush (v := (-2 : Int32)) dX11_byPart_18 (by decide) ?_
      replace hm := Option.some.inj hm
      subst hm
      exact X_iret dX11_byPart_20 rfl
def mX11_log_49 (P : Nat → Nat → Nat) (I : Nat → Nat → Int32) (a1 : Int32) (a2 : Int32) (a3 : Int32) : Option (Int32 × (Nat → Nat → Int32)) := (if (I 12 7) < (10 : Int32) then (if inb (I 12 7) 10 = true then (if inb ((xu I 28 (ix (I 12 7)) a1) 12 7) 10 = true then (if inb ((xu (xu I 28 (ix (I 12 7)) a1) 29 (ix ((xu I 28 (ix (I 12 7)) a1) 12 7)) a2) 12 7) 10 = true then (some (((xu (xu (xu (xu I 28 (ix (I 12 7)) a1) 29 (ix ((xu I 28 (ix (I 12 7)) a1) 12 7)) a2) 30 (ix ((xu (xu I 28 (ix (I 12 7)) a1) 29 (ix ((xu I 28 (ix (I 12 7)) a1) 12 7)) a2) 12 7)) a3) 12 7 (((xu (xu (xu I 28 (ix (I 12 7)) a1) 29 (ix ((xu I 28 (ix (I 12 7)) a1) 12 7)) a2) 30 (ix ((xu (xu I 28 (ix (I 12 7)) a1) 29 (ix ((xu I 28 (ix (I 12 7)) a1) 12 7)) a2) 12 7)) a3) 12 7) + (1 : Int32))) 12 7), (xu (xu (xu (xu I 28 (ix (I 12 7)) a1) 29 (ix ((xu I 28 (ix (I 12 7)) a1) 12 7)) a2) 30 (ix ((xu (xu I 28 (ix (I 12 7)) a1) 29 (ix ((xu I 28 (ix (I 12 7)) a1) 12 7)) a2) 12 7)) a3) 12 7 (((xu (xu (xu I 28 (ix (I 12 7)) a1) 29 (ix ((xu I 28 (ix (I 12 7)) a1) 12 7)) a2) 30 (ix ((xu (xu I 28 (ix (I 12 7)) a1) 29 (ix ((xu I 28 (ix (I 12 7)) a1) 12 7)) a2) 12 7)) a3) 12 7) + (1 : Int32))))) else none) else none) else none) else (some ((-2 : Int32), I)))
set_option maxHeartbeats 400000 in
set_option maxRecDepth 100000 in
theorem kX11_log_49 {E : xE} {B : Nat} {n : Nat} {K : Nat → Nat × Nat} {P : Nat → Nat → Nat} {I : Nat → Nat → Int32} {L : Nat → Nat → Int64}   {a1 : Int32} {a2 : Int32} {a3 : Int32} {q : Int32 × (Nat → Nat → Int32)} (d : Nat) (hd : 1 ≤ d) (G : GW K P)    (hm : mX11_log_49 P I a1 a2 a3 = some q) : X E B d 0 0 yX11_log cX11_log 4 (some .int) (some (.int q.1), (n, K, P, q.2, L)) 49 [(0, .ref 1), (1, .int a1), (2, .int a2), (3, .int a3)] [] 0 0 (n, K, P, I, L) := by
  obtain ⟨d, rfl⟩ : ∃ d0, d = d0 + 1 := ⟨d - 1, by omega⟩
  unfold mX11_log_49 at hm
  refine X_aload_n 0 dX11_log_49 rfl rfl rfl ?_
  refine X_getPe fl_X11_38 (g_K1 G) rfl (g_P1_6 G) dX11_log_50 ?_
  refine X_getI fl_X11_233 (g_K12 G) rfl dX11_log_53 ?_
  refine X_bipush (v := (10 : Int32)) dX11_log_56 (by decide) ?_
  refine X_icmp_lt (tgt := 64) dX11_log_58 (by decide) (fun c9 => ?_) (fun c9 => ?_)
  · replace hm := ip c9 hm
    refine X_aload_n 0 dX11_log_64 rfl rfl rfl ?_
    refine X_getPe fl_X11_38 (g_K1 G) rfl (g_P1_6 G) dX11_log_65 ?_
    refine X_getPe fl_X11_374 (g_K12 G) rfl (g_P12_4 G) dX11_log_68 ?_
    refine X_aload_n 0 dX11_log_71 rfl rfl rfl ?_
    refine X_getPe fl_X11_38 (g_K1 G) rfl (g_P1_6 G) dX11_log_72 ?_
    refine X_getI fl_X11_233 (g_K12 G) rfl dX11_log_75 ?_
    refine X_iload_n 1 dX11_log_78 rfl rfl ?_
    obtain ⟨g10, hm⟩ := og hm
    refine X_iastJ (g_K28 G) g10 rfl dX11_log_79 ?_
    refine X_aload_n 0 dX11_log_80 rfl rfl rfl ?_
    refine X_getPe fl_X11_38 (g_K1 G) rfl (g_P1_6 G) dX11_log_81 ?_
    refine X_getPe fl_X11_377 (g_K12 G) rfl (g_P12_5 G) dX11_log_84 ?_
    refine X_aload_n 0 dX11_log_87 rfl rfl rfl ?_
    refine X_getPe fl_X11_38 (g_K1 G) rfl (g_P1_6 G) dX11_log_88 ?_
    refine X_getI fl_X11_233 (g_K12 G) rfl dX11_log_91 ?_
    refine X_iload_n 2 dX11_log_94 rfl rfl ?_
    obtain ⟨g11, hm⟩ := og hm
    refine X_iastJ (g_K29 G) g11 rfl dX11_log_95 ?_
    refine X_aload_n 0 dX11_log_96 rfl rfl rfl ?_
    refine X_getPe fl_X11_38 (g_K1 G) rfl (g_P1_6 G) dX11_log_97 ?_
    refine X_getPe fl_X11_380 (g_K12 G) rfl (g_P12_6 G) dX11_log_100 ?_
    refine X_aload_n 0 dX11_log_103 rfl rfl rfl ?_
    refine X_getPe fl_X11_38 (g_K1 G) rfl (g_P1_6 G) dX11_log_104 ?_
    refine X_getI fl_X11_233 (g_K12 G) rfl dX11_log_107 ?_
    refine X_iload_n 3 dX11_log_110 rfl rfl ?_
    obtain ⟨g12, hm⟩ := og hm
    refine X_iastJ (g_K30 G) g12 rfl dX11_log_111 ?_
    refine X_aload_n 0 dX11_log_112 rfl rfl rfl ?_
    refine X_getPe fl_X11_38 (g_K1 G) rfl (g_P1_6 G) dX11_log_113 ?_
    refine X_dup dX11_log_116 rfl ?_
    refine X_getI fl_X11_233 (g_K12 G) rfl dX11_log_117 ?_
    refine X_iconst (v := (1 : Int32)) dX11_log_120 (by decide) ?_
    refine X_iadd dX11_log_121 ?_
    refine X_putI fl_X11_233 (g_K12 G) rfl rfl dX11_log_122 ?_
    refine X_aload_n 0 dX11_log_125 rfl rfl rfl ?_
    refine X_getPe fl_X11_38 (g_K1 G) rfl (g_P1_6 G) dX11_log_126 ?_
    refine X_getI fl_X11_233 (g_K12 G) rfl dX11_log_129 ?_
    replace hm := Option.some.inj hm
    subst hm
    exact X_iret dX11_log_132 rfl
  · replace hm := iq c9 hm
    refine X_bipush (v := (-2 : Int32)) dX11_log_61 (by decide) ?_
    replace hm := Option.some.inj hm
    subst hm
    exact X_iret dX11_log_63 rfl
def mX11_log (P : Nat → Nat → Nat) (I : Nat → Nat → Int32) (a1 : Int32) (a2 : Int32) (a3 : Int32) : Option (Int32 × (Nat → Nat → Int32)) := (if a1 = (-1 : Int32) then (some ((0 : Int32), (xu I 12 7 (0 : Int32)))) else (Option.bind (mX11_isWithin a1 (0 : Int32) (99 : Int32)) (fun q2 => (if q2 = 0 then (some ((-2 : Int32), I)) else (Option.bind (mX11_isThing P I a2) (fun q5 => (if q5 = 0 then (some ((-2 : Int32), I)) else (if a3 = (-1 : Int32) then (mX11_log_49 P I a1 a2 a3) else (Option.bind (mX11_isPainter P I a3) (fun q13 => (if q13 = 0 then (some ((-2 : Int32), I)) else (mX11_log_49 P I a1 a2 a3))))))))))))
set_option maxHeartbeats 400000 in
set_option maxRecDepth 100000 in
theorem kX11_log {E : xE} {B : Nat} {n : Nat} {K : Nat → Nat × Nat} {P : Nat → Nat → Nat} {I : Nat → Nat → Int32} {L : Nat → Nat → Int64}  {a1 : Int32} {a2 : Int32} {a3 : Int32} {q : Int32 × (Nat → Nat → Int32)} (d : Nat) (hd : 1 ≤ d) (G : GW K P)   (hm : mX11_log P I a1 a2 a3 = some q) : MX E B d 0 0 yX11_log cX11_log 4 (some .int) [.ref 1, .int a1, .int a2, .int a3] (n, K, P, I, L) (some (.int q.1), (n, K, P, q.2, L)) := by
  refine MX_of (lv := [(0, .ref 1), (1, .int a1), (2, .int a2), (3, .int a3)]) (by decide +kernel) (Nat.le_of_ble_eq_true rfl) rfl ?_
  obtain ⟨d, rfl⟩ : ∃ d0, d = d0 + 1 := ⟨d - 1, by omega⟩
  unfold mX11_log at hm
  refine X_iload_n 1 dX11_log_0 rfl rfl ?_
  refine X_iconst (v := (-1 : Int32)) dX11_log_1 (by decide) ?_
  refine X_icmp_ne (tgt := 15) dX11_log_2 (by decide) (fun c1 => ?_) (fun c1 => ?_)
  · replace hm := iq c1 hm
    refine X_iload_n 1 dX11_log_15 rfl rfl ?_
    refine X_iconst (v := (0 : Int32)) dX11_log_16 (by decide) ?_
    refine X_bipush (v := (99 : Int32)) dX11_log_17 (by decide) ?_
    obtain ⟨q2, e3, hm⟩ := ob hm
    refine X_cS1 (kX11_isWithin d (by omega) G e3) ml_X11_285 ms_X11_isWithin rfl rfl (Nat.le_refl _) ⟨Nat.le_refl _, Nat.le_refl _⟩ (Nat.le_of_ble_eq_true rfl) dX11_log_19 ?_
    refine X_if_eq (tgt := 46) dX11_log_22 (by decide) (fun c4 => ?_) (fun c4 => ?_)
    · replace hm := ip c4 hm
      refine X_bipush (v := (-2 : Int32)) dX11_log_46 (by decide) ?_
      replace hm := Option.some.inj hm
      subst hm
      exact X_iret dX11_log_48 rfl
    · replace hm := iq c4 hm
      refine X_aload_n 0 dX11_log_25 rfl rfl rfl ?_
      refine X_iload_n 2 dX11_log_26 rfl rfl ?_
      obtain ⟨q5, e6, hm⟩ := ob hm
      refine X_cV1 (ci := 10) (kX11_isThing d (by omega) G e6) ml_X11_192 mi_X11_isThing rfl cf_10 (g_K1 G) rfl rfl (Nat.le_refl _) ⟨Nat.le_refl _, Nat.le_refl _⟩ (Nat.le_of_ble_eq_true rfl) dX11_log_27 ?_
      refine X_if_eq (tgt := 46) dX11_log_30 (by decide) (fun c7 => ?_) (fun c7 => ?_)
      · replace hm := ip c7 hm
        refine X_bipush (v := (-2 : Int32)) dX11_log_46 (by decide) ?_
        replace hm := Option.some.inj hm
        subst hm
        exact X_iret dX11_log_48 rfl
      · replace hm := iq c7 hm
        refine X_iload_n 3 dX11_log_33 rfl rfl ?_
        refine X_iconst (v := (-1 : Int32)) dX11_log_34 (by decide) ?_
        refine X_icmp_eq (tgt := 49) dX11_log_35 (by decide) (fun c8 => ?_) (fun c8 => ?_)
        · replace hm := ip c8 hm
          exact kX11_log_49 _ hd G hm
        · replace hm := iq c8 hm
          refine X_aload_n 0 dX11_log_38 rfl rfl rfl ?_
          refine X_iload_n 3 dX11_log_39 rfl rfl ?_
          obtain ⟨q13, e14, hm⟩ := ob hm
          refine X_cV1 (ci := 10) (kX11_isPainter d (by omega) G e14) ml_X11_183 mi_X11_isPainter rfl cf_10 (g_K1 G) rfl rfl (Nat.le_refl _) ⟨Nat.le_refl _, Nat.le_refl _⟩ (Nat.le_of_ble_eq_true rfl) dX11_log_40 ?_
          refine X_if_ne (tgt := 49) dX11_log_43 (by decide) (fun c15 => ?_) (fun c15 => ?_)
          · replace hm := iq c15 hm
            exact kX11_log_49 _ hd G hm
          · replace hm := ip c15 hm
            refine X_bipush (v := (-2 : Int32)) dX11_log_46 (by decide) ?_
            replace hm := Option.some.inj hm
            subst hm
            exact X_iret dX11_log_48 rfl
  · replace hm := ip c1 hm
    refine X_aload_n 0 dX11_log_5 rfl rfl rfl ?_
    refine X_getPe fl_X11_38 (g_K1 G) rfl (g_P1_6 G) dX11_log_6 ?_
    refine X_iconst (v := (0 : Int32)) dX11_log_9 (by decide) ?_
    refine X_putI fl_X11_233 (g_K12 G) rfl rfl dX11_log_10 ?_
    refine X_iconst (v := (0 : Int32)) dX11_log_13 (by decide) ?_
    replace hm := Option.some.inj hm
    subst hm
    exact X_iret dX11_log_14 rfl
def mX11_logsHold_2 (P : Nat → Nat → Nat) (I : Nat → Nat → Int32) (L : Nat → Nat → Int64)  : Nat → Int32 → Int32 → Option (Int32)
  | 0, _, _ => none
  | f + 1, a1, a2 => (if (I 12 7) ≤ a2 then (some (1 : Int32)) else (if inb a2 10 = true then (if (I 28 (ix a2)) = a1 then (if inb a2 10 = true then (Option.bind (mX7_ownerOfThing I L (P 12 0) 92 (I 29 (ix a2))) (fun q5 => (if inb a2 10 = true then (if q5 = (I 30 (ix a2)) then (mX11_logsHold_2 P I L f a1 (a2 + 1)) else (some (0 : Int32))) else none))) else none) else (mX11_logsHold_2 P I L f a1 (a2 + 1))) else none))
set_option maxHeartbeats 400000 in
set_option maxRecDepth 100000 in
theorem kX11_logsHold_2 {E : xE} {B : Nat} {n : Nat} {K : Nat → Nat × Nat} {P : Nat → Nat → Nat} {I : Nat → Nat → Int32} {L : Nat → Nat → Int64}   {q : Int32} (d : Nat) (hd : 5 ≤ d) (G : GW K P)   : ∀ (f : Nat) (a1 : Int32) (a2 : Int32), mX11_logsHold_2 P I L f a1 a2 = some q → X E B d 0 0 yX11_logsHold cX11_logsHold 3 (some .boolean) (some (.int q), (n, K, P, I, L)) 2 [(0, .ref 1), (1, .int a1), (2, .int a2)] [] 0 0 (n, K, P, I, L) := by
  obtain ⟨d, rfl⟩ : ∃ d0, d = d0 + 1 := ⟨d - 1, by omega⟩
  intro f
  induction f with
  | zero => intro _ _ hm; exact nomatch (show (none : Option (Int32)) = some q from hm)
  | succ f ih =>
    intro a1 a2 hm
    rw [mX11_logsHold_2] at hm
    refine X_iload_n 2 dX11_logsHold_2 rfl rfl ?_
    refine X_aload_n 0 dX11_logsHold_3 rfl rfl rfl ?_
    refine X_getPe fl_X11_38 (g_K1 G) rfl (g_P1_6 G) dX11_logsHold_4 ?_
    refine X_getI fl_X11_233 (g_K12 G) rfl dX11_logsHold_7 ?_
    refine X_icmp_ge (tgt := 69) dX11_logsHold_10 (by decide) (fun c1 => ?_) (fun c1 => ?_)
    · replace hm := ip c1 hm
      refine X_iconst (v := (1 : Int32)) dX11_logsHold_69 (by decide) ?_
      replace hm := Option.some.inj hm
      subst hm
      exact X_zret (v := (1 : Int32)) dX11_logsHold_70 rfl (x_nz (Or.inr rfl))
    · replace hm := iq c1 hm
      refine X_aload_n 0 dX11_logsHold_13 rfl rfl rfl ?_
      refine X_getPe fl_X11_38 (g_K1 G) rfl (g_P1_6 G) dX11_logsHold_14 ?_
      refine X_getPe fl_X11_374 (g_K12 G) rfl (g_P12_4 G) dX11_logsHold_17 ?_
      refine X_iload_n 2 dX11_logsHold_20 rfl rfl ?_
      obtain ⟨g2, hm⟩ := og hm
      refine X_ialdJ (g_K28 G) g2 rfl dX11_logsHold_21 ?_
      refine X_iload_n 1 dX11_logsHold_22 rfl rfl ?_
      refine X_icmp_ne (tgt := 63) dX11_logsHold_23 (by decide) (fun c3 => ?_) (fun c3 => ?_)
      · replace hm := iq c3 hm
        refine X_iinc (lv' := [(2, .int (a2 + 1)), (0, .ref 1), (1, .int a1)]) 2 dX11_logsHold_63 rfl rfl (by decide) rfl ?_
        refine X_goto (tgt := 2) dX11_logsHold_66 (by decide) ?_
        exact X_lv [1, 2, 0] rfl (ih _ _ hm)
      · replace hm := ip c3 hm
        refine X_aload_n 0 dX11_logsHold_26 rfl rfl rfl ?_
        refine X_getPe fl_X11_38 (g_K1 G) rfl (g_P1_6 G) dX11_logsHold_27 ?_
        refine X_getP fl_X11_116 (g_K12 G) rfl dX11_logsHold_30 ?_
        refine X_aload_n 0 dX11_logsHold_33 rfl rfl rfl ?_
        refine X_getPe fl_X11_49 (g_K1 G) rfl (g_P1_8 G) dX11_logsHold_34 ?_
        refine X_aload_n 0 dX11_logsHold_37 rfl rfl rfl ?_
        refine X_getPe fl_X11_38 (g_K1 G) rfl (g_P1_6 G) dX11_logsHold_38 ?_
        refine X_getPe fl_X11_377 (g_K12 G) rfl (g_P12_5 G) dX11_logsHold_41 ?_
        refine X_iload_n 2 dX11_logsHold_44 rfl rfl ?_
        obtain ⟨g4, hm⟩ := og hm
        refine X_ialdJ (g_K29 G) g4 rfl dX11_logsHold_45 ?_
        obtain ⟨q5, e6, hm⟩ := ob hm
        refine X_cV1 (ci := 6) (kX7_ownerOfThing d (by omega) G (gl9_st G (g_K12 G)) (g_K92 G) e6) ml_X11_204 mi_X7_ownerOfThing rfl cf_6 (gl9_st G (g_K12 G)) rfl rfl (Nat.le_refl _) ⟨Nat.le_refl _, Nat.le_refl _⟩ (Nat.le_of_ble_eq_true rfl) dX11_logsHold_46 ?_
        refine X_aload_n 0 dX11_logsHold_49 rfl rfl rfl ?_
        refine X_getPe fl_X11_38 (g_K1 G) rfl (g_P1_6 G) dX11_logsHold_50 ?_
        refine X_getPe fl_X11_380 (g_K12 G) rfl (g_P12_6 G) dX11_logsHold_53 ?_
        refine X_iload_n 2 dX11_logsHold_56 rfl rfl ?_
        obtain ⟨g7, hm⟩ := og hm
        refine X_ialdJ (g_K30 G) g7 rfl dX11_logsHold_57 ?_
        refine X_icmp_eq (tgt := 63) dX11_logsHold_58 (by decide) (fun c8 => ?_) (fun c8 => ?_)
        · replace hm := ip c8 hm
          refine X_iinc (lv' := [(2, .int (a2 + 1)), (0, .ref 1), (1, .int a1)]) 2 dX11_logsHold_63 rfl rfl (by decide) rfl ?_
          refine X_goto (tgt := 2) dX11_logsHold_66 (by decide) ?_
          exact X_lv [1, 2, 0] rfl (ih _ _ hm)
        · replace hm := iq c8 hm
          refine X_iconst (v := (0 : Int32)) dX11_logsHold_61 (by decide) ?_
          replace hm := Option.some.inj hm
          subst hm
          exact X_zret (v := (0 : Int32)) dX11_logsHold_62 rfl (x_nz (Or.inl rfl))
def mX11_logsHold (P : Nat → Nat → Nat) (I : Nat → Nat → Int32) (L : Nat → Nat → Int64) (a1 : Int32) : Option (Int32) := (mX11_logsHold_2 P I L xf a1 (0 : Int32))
set_option maxHeartbeats 400000 in
set_option maxRecDepth 100000 in
theorem kX11_logsHold {E : xE} {B : Nat} {n : Nat} {K : Nat → Nat × Nat} {P : Nat → Nat → Nat} {I : Nat → Nat → Int32} {L : Nat → Nat → Int64}  {a1 : Int32} {q : Int32} (d : Nat) (hd : 5 ≤ d) (G : GW K P)   (hm : mX11_logsHold P I L a1 = some q) : MX E B d 0 0 yX11_logsHold cX11_logsHold 3 (some .boolean) [.ref 1, .int a1] (n, K, P, I, L) (some (.int q), (n, K, P, I, L)) := by
  refine MX_of (lv := [(0, .ref 1), (1, .int a1)]) (by decide +kernel) (Nat.le_of_ble_eq_true rfl) rfl ?_
  obtain ⟨d, rfl⟩ : ∃ d0, d = d0 + 1 := ⟨d - 1, by omega⟩
  unfold mX11_logsHold at hm
  refine X_iconst (v := (0 : Int32)) dX11_logsHold_0 (by decide) ?_
  refine X_istore_n (lv' := [(2, .int (0 : Int32)), (0, .ref 1), (1, .int a1)]) dX11_logsHold_1 rfl (by decide) rfl ?_
  refine X_lv [1, 2, 0] rfl (kX11_logsHold_2 _ hd G xf _ _  hm)
def mX11_noteSeen_13 (P : Nat → Nat → Nat) (L : Nat → Nat → Int64)  : Nat → (Nat → Nat → Int32) → Int32 → Int32 → Option ((Nat → Nat → Int32))
  | 0, _, _, _ => none
  | f + 1, I, a1, a2 => (if (I (P 12 0) 5) ≤ a2 then (some I) else (Option.bind (mX7_ownerOfThing I L (P 12 0) 92 a2) (fun q4 => (if inb ((a1 * (4 : Int32)) + a2) 28 = true then (mX11_noteSeen_13 P L f (xu I 122 (ix ((a1 * (4 : Int32)) + a2)) q4) a1 (a2 + 1)) else none))))
set_option maxHeartbeats 400000 in
set_option maxRecDepth 100000 in
theorem kX11_noteSeen_13 {E : xE} {B : Nat} {n : Nat} {K : Nat → Nat × Nat} {P : Nat → Nat → Nat} {L : Nat → Nat → Int64}   {q : (Nat → Nat → Int32)} (d : Nat) (hd : 5 ≤ d) (G : GW K P)   : ∀ (f : Nat) (I : Nat → Nat → Int32) (a1 : Int32) (a2 : Int32), mX11_noteSeen_13 P L f I a1 a2 = some q → X E B d 0 0 yX11_noteSeen cX11_noteSeen 3 (none : Option Jvm.ClassFile.FieldType) (none, (n, K, P, q, L)) 13 [(0, .ref 1), (1, .int a1), (2, .int a2)] [] 0 0 (n, K, P, I, L) := by
  obtain ⟨d, rfl⟩ : ∃ d0, d = d0 + 1 := ⟨d - 1, by omega⟩
  intro f
  induction f with
  | zero => intro _ _ _ hm; exact nomatch (show (none : Option ((Nat → Nat → Int32))) = some q from hm)
  | succ f ih =>
    intro I a1 a2 hm
    rw [mX11_noteSeen_13] at hm
    refine X_iload_n 2 dX11_noteSeen_13 rfl rfl ?_
    refine X_aload_n 0 dX11_noteSeen_14 rfl rfl rfl ?_
    refine X_getPe fl_X11_38 (g_K1 G) rfl (g_P1_6 G) dX11_noteSeen_15 ?_
    refine X_getP fl_X11_116 (g_K12 G) rfl dX11_noteSeen_18 ?_
    refine X_getI fl_X11_136 (gl9_st G (g_K12 G)) rfl dX11_noteSeen_21 ?_
    refine X_icmp_ge (tgt := 58) dX11_noteSeen_24 (by decide) (fun c3 => ?_) (fun c3 => ?_)
    · replace hm := ip c3 hm
      replace hm := Option.some.inj hm
      subst hm
      exact X_vret dX11_noteSeen_58 rfl
    · replace hm := iq c3 hm
      refine X_aload_n 0 dX11_noteSeen_27 rfl rfl rfl ?_
      refine X_getPe fl_X11_81 (g_K1 G) rfl (g_P1_14 G) dX11_noteSeen_28 ?_
      refine X_iload_n 1 dX11_noteSeen_31 rfl rfl ?_
      refine X_iconst (v := (4 : Int32)) dX11_noteSeen_32 (by decide) ?_
      refine X_imul dX11_noteSeen_33 ?_
      refine X_iload_n 2 dX11_noteSeen_34 rfl rfl ?_
      refine X_iadd dX11_noteSeen_35 ?_
      refine X_aload_n 0 dX11_noteSeen_36 rfl rfl rfl ?_
      refine X_getPe fl_X11_38 (g_K1 G) rfl (g_P1_6 G) dX11_noteSeen_37 ?_
      refine X_getP fl_X11_116 (g_K12 G) rfl dX11_noteSeen_40 ?_
      refine X_aload_n 0 dX11_noteSeen_43 rfl rfl rfl ?_
      refine X_getPe fl_X11_49 (g_K1 G) rfl (g_P1_8 G) dX11_noteSeen_44 ?_
      refine X_iload_n 2 dX11_noteSeen_47 rfl rfl ?_
      obtain ⟨q4, e5, hm⟩ := ob hm
      refine X_cV1 (ci := 6) (kX7_ownerOfThing d (by omega) G (gl9_st G (g_K12 G)) (g_K92 G) e5) ml_X11_204 mi_X7_ownerOfThing rfl cf_6 (gl9_st G (g_K12 G)) rfl rfl (Nat.le_refl _) ⟨Nat.le_refl _, Nat.le_refl _⟩ (Nat.le_of_ble_eq_true rfl) dX11_noteSeen_48 ?_
      obtain ⟨g6, hm⟩ := og hm
      refine X_iastJ (g_K122 G) g6 rfl dX11_noteSeen_51 ?_
      refine X_iinc (lv' := [(2, .int (a2 + 1)), (0, .ref 1), (1, .int a1)]) 2 dX11_noteSeen_52 rfl rfl (by decide) rfl ?_
      refine X_goto (tgt := 13) dX11_noteSeen_55 (by decide) ?_
      exact X_lv [1, 2, 0] rfl (ih _ _ _ hm)
def mX11_noteSeen (P : Nat → Nat → Nat) (L : Nat → Nat → Int64) (I : Nat → Nat → Int32) (a1 : Int32) : Option ((Nat → Nat → Int32)) := (if a1 < 0 then (some I) else (if a1 ≤ (6 : Int32) then (mX11_noteSeen_13 P L xf I a1 (0 : Int32)) else (some I)))
set_option maxHeartbeats 400000 in
set_option maxRecDepth 100000 in
theorem kX11_noteSeen {E : xE} {B : Nat} {n : Nat} {K : Nat → Nat × Nat} {P : Nat → Nat → Nat} {I : Nat → Nat → Int32} {L : Nat → Nat → Int64}  {a1 : Int32} {q : (Nat → Nat → Int32)} (d : Nat) (hd : 5 ≤ d) (G : GW K P)   (hm : mX11_noteSeen P L I a1 = some q) : MX E B d 0 0 yX11_noteSeen cX11_noteSeen 3 (none : Option Jvm.ClassFile.FieldType) [.ref 1, .int a1] (n, K, P, I, L) (none, (n, K, P, q, L)) := by
  refine MX_of (lv := [(0, .ref 1), (1, .int a1)]) (by decide +kernel) (Nat.le_of_ble_eq_true rfl) rfl ?_
  obtain ⟨d, rfl⟩ : ∃ d0, d = d0 + 1 := ⟨d - 1, by omega⟩
  unfold mX11_noteSeen at hm
  refine X_iload_n 1 dX11_noteSeen_0 rfl rfl ?_
  refine X_if_lt (tgt := 10) dX11_noteSeen_1 (by decide) (fun c1 => ?_) (fun c1 => ?_)
  · replace hm := ip c1 hm
    replace hm := Option.some.inj hm
    subst hm
    exact X_vret dX11_noteSeen_10 rfl
  · replace hm := iq c1 hm
    refine X_iload_n 1 dX11_noteSeen_4 rfl rfl ?_
    refine X_bipush (v := (6 : Int32)) dX11_noteSeen_5 (by decide) ?_
    refine X_icmp_le (tgt := 11) dX11_noteSeen_7 (by decide) (fun c2 => ?_) (fun c2 => ?_)
    · replace hm := ip c2 hm
      refine X_iconst (v := (0 : Int32)) dX11_noteSeen_11 (by decide) ?_
      refine X_istore_n (lv' := [(2, .int (0 : Int32)), (0, .ref 1), (1, .int a1)]) dX11_noteSeen_12 rfl (by decide) rfl ?_
      refine X_lv [1, 2, 0] rfl (kX11_noteSeen_13 _ hd G xf _ _ _  hm)
    · replace hm := iq c2 hm
      replace hm := Option.some.inj hm
      subst hm
      exact X_vret dX11_noteSeen_10 rfl
def mX11_fits_62 (K : Nat → Nat × Nat) (P : Nat → Nat → Nat) (b33 : (Nat → Nat → Int32) → (Nat → Nat → Int64) → Int32 → Int32 → Int32 → Int32 → Int32 → Option (Int32 × (Nat → Nat → Int32) × (Nat → Nat → Int64))) (I : Nat → Nat → Int32) (L : Nat → Nat → Int64) (a1 : Int32) (a2 : Int32) (a3 : Int32) (a4 : Int32) (a5 : Int32) : Option (Int32 × (Nat → Nat → Int32) × (Nat → Nat → Int64)) := (if a4 ≤ a5 then (b33 I L a1 a2 a3 a4 (a5 + 1)) else (Option.bind (mX11_ruleOf P I a1) (fun q13 => (Option.bind (mX2_pass K I L (P 12 0) 92 q13) (fun q15 => (b33 q15.2.1 q15.2.2 a1 a2 a3 a4 (a5 + 1)))))))
set_option maxHeartbeats 400000 in
set_option maxRecDepth 100000 in
theorem kX11_fits_62 {E : xE} {B : Nat} {n : Nat} {K : Nat → Nat × Nat} {P : Nat → Nat → Nat} {I : Nat → Nat → Int32} {L : Nat → Nat → Int64}  {b33 : (Nat → Nat → Int32) → (Nat → Nat → Int64) → Int32 → Int32 → Int32 → Int32 → Int32 → Option (Int32 × (Nat → Nat → Int32) × (Nat → Nat → Int64))} {a1 : Int32} {a2 : Int32} {a3 : Int32} {a4 : Int32} {a5 : Int32} {q : Int32 × (Nat → Nat → Int32) × (Nat → Nat → Int64)} (d : Nat) (hd : 6 ≤ d) (G : GW K P)  (hb33 : ∀ (I : Nat → Nat → Int32) (L : Nat → Nat → Int64) (a1 : Int32) (a2 : Int32) (a3 : Int32) (a4 : Int32) (a5 : Int32), b33 I L a1 a2 a3 a4 a5 = some q → X E B d 0 0 yX11_fits cX11_fits 6 (some .boolean) (some (.int q.1), (n, K, P, q.2.1, q.2.2)) 33 [(0, .ref 1), (1, .int a1), (2, .int a2), (3, .int a3), (4, .int a4), (5, .int a5)] [] 0 0 (n, K, P, I, L))  (hm : mX11_fits_62 K P b33 I L a1 a2 a3 a4 a5 = some q) : X E B d 0 0 yX11_fits cX11_fits 6 (some .boolean) (some (.int q.1), (n, K, P, q.2.1, q.2.2)) 62 [(0, .ref 1), (1, .int a1), (2, .int a2), (3, .int a3), (4, .int a4), (5, .int a5)] [] 0 0 (n, K, P, I, L) := by
  obtain ⟨d, rfl⟩ : ∃ d0, d = d0 + 1 := ⟨d - 1, by omega⟩
  unfold mX11_fits_62 at hm
  refine X_iload 5 dX11_fits_62 rfl ?_
  refine X_iload 4 dX11_fits_64 rfl ?_
  refine X_icmp_ge (tgt := 93) dX11_fits_66 (by decide) (fun c12 => ?_) (fun c12 => ?_)
  · replace hm := ip c12 hm
    refine X_iinc (lv' := [(5, .int (a5 + 1)), (0, .ref 1), (1, .int a1), (2, .int a2), (3, .int a3), (4, .int a4)]) 5 dX11_fits_93 rfl rfl (by decide) rfl ?_
    refine X_goto (tgt := 33) dX11_fits_96 (by decide) ?_
    exact X_lv [1, 2, 3, 4, 5, 0] rfl (hb33 _ _ _ _ _ _ _ hm)
  · replace hm := iq c12 hm
    refine X_aload_n 0 dX11_fits_69 rfl rfl rfl ?_
    refine X_getPe fl_X11_56 (g_K1 G) rfl (g_P1_9 G) dX11_fits_70 ?_
    refine X_aload_n 0 dX11_fits_73 rfl rfl rfl ?_
    refine X_getPe fl_X11_38 (g_K1 G) rfl (g_P1_6 G) dX11_fits_74 ?_
    refine X_getP fl_X11_116 (g_K12 G) rfl dX11_fits_77 ?_
    refine X_aload_n 0 dX11_fits_80 rfl rfl rfl ?_
    refine X_getPe fl_X11_49 (g_K1 G) rfl (g_P1_8 G) dX11_fits_81 ?_
    refine X_aload_n 0 dX11_fits_84 rfl rfl rfl ?_
    refine X_iload_n 1 dX11_fits_85 rfl rfl ?_
    obtain ⟨q13, e14, hm⟩ := ob hm
    refine X_cV1 (ci := 10) (kX11_ruleOf d (by omega) G e14) ml_X11_260 mi_X11_ruleOf rfl cf_10 (g_K1 G) rfl rfl (Nat.le_refl _) ⟨Nat.le_refl _, Nat.le_refl _⟩ (Nat.le_of_ble_eq_true rfl) dX11_fits_86 ?_
    obtain ⟨q15, e16, hm⟩ := ob hm
    refine X_cV1 (ci := 1) (kX2_pass d (by omega) G (gl9_st G (g_K12 G)) (g_K92 G) (rf_ruleOf G e14) e16) ml_X11_264 mi_X2_pass rfl cf_1 (g_K95 G) rfl rfl (Nat.le_refl _) ⟨Nat.le_refl _, Nat.le_refl _⟩ (Nat.le_of_ble_eq_true rfl) dX11_fits_89 ?_
    refine X_pop dX11_fits_92 rfl ?_
    refine X_iinc (lv' := [(5, .int (a5 + 1)), (0, .ref 1), (1, .int a1), (2, .int a2), (3, .int a3), (4, .int a4)]) 5 dX11_fits_93 rfl rfl (by decide) rfl ?_
    refine X_goto (tgt := 33) dX11_fits_96 (by decide) ?_
    exact X_lv [1, 2, 3, 4, 5, 0] rfl (hb33 _ _ _ _ _ _ _ hm)
def mX11_fits_33 (K : Nat → Nat × Nat) (P : Nat → Nat → Nat)  : Nat → (Nat → Nat → Int32) → (Nat → Nat → Int64) → Int32 → Int32 → Int32 → Int32 → Int32 → Option (Int32 × (Nat → Nat → Int32) × (Nat → Nat → Int64))
  | 0, _, _, _, _, _, _, _ => none
  | f + 1, I, L, a1, a2, a3, a4, a5 => (if a4 < a5 then (some ((1 : Int32), I, L)) else (Option.bind (mX11_logsHold P I L a5) (fun q8 => (if q8 = 0 then (some ((0 : Int32), I, L)) else (if a5 = a2 then (Option.bind (mX11_noteSeen P L I a3) (fun q17 => (mX11_fits_62 K P (fun (I : Nat → Nat → Int32) (L : Nat → Nat → Int64) (a1 : Int32) (a2 : Int32) (a3 : Int32) (a4 : Int32) (a5 : Int32) => mX11_fits_33 K P f I L a1 a2 a3 a4 a5) q17 L a1 a2 a3 a4 a5))) else (mX11_fits_62 K P (fun (I : Nat → Nat → Int32) (L : Nat → Nat → Int64) (a1 : Int32) (a2 : Int32) (a3 : Int32) (a4 : Int32) (a5 : Int32) => mX11_fits_33 K P f I L a1 a2 a3 a4 a5) I L a1 a2 a3 a4 a5))))))
set_option maxHeartbeats 400000 in
set_option maxRecDepth 100000 in
theorem kX11_fits_33 {E : xE} {B : Nat} {n : Nat} {K : Nat → Nat × Nat} {P : Nat → Nat → Nat}   {q : Int32 × (Nat → Nat → Int32) × (Nat → Nat → Int64)} (d : Nat) (hd : 6 ≤ d) (G : GW K P)   : ∀ (f : Nat) (I : Nat → Nat → Int32) (L : Nat → Nat → Int64) (a1 : Int32) (a2 : Int32) (a3 : Int32) (a4 : Int32) (a5 : Int32), mX11_fits_33 K P f I L a1 a2 a3 a4 a5 = some q → X E B d 0 0 yX11_fits cX11_fits 6 (some .boolean) (some (.int q.1), (n, K, P, q.2.1, q.2.2)) 33 [(0, .ref 1), (1, .int a1), (2, .int a2), (3, .int a3), (4, .int a4), (5, .int a5)] [] 0 0 (n, K, P, I, L) := by
  obtain ⟨d, rfl⟩ : ∃ d0, d = d0 + 1 := ⟨d - 1, by omega⟩
  intro f
  induction f with
  | zero => intro _ _ _ _ _ _ _ hm; exact nomatch (show (none : Option (Int32 × (Nat → Nat → Int32) × (Nat → Nat → Int64))) = some q from hm)
  | succ f ih =>
    intro I L a1 a2 a3 a4 a5 hm
    rw [mX11_fits_33] at hm
    refine X_iload 5 dX11_fits_33 rfl ?_
    refine X_iload 4 dX11_fits_35 rfl ?_
    refine X_icmp_gt (tgt := 99) dX11_fits_37 (by decide) (fun c7 => ?_) (fun c7 => ?_)
    · replace hm := ip c7 hm
      refine X_iconst (v := (1 : Int32)) dX11_fits_99 (by decide) ?_
      replace hm := Option.some.inj hm
      subst hm
      exact X_zret (v := (1 : Int32)) dX11_fits_100 rfl (x_nz (Or.inr rfl))
    · replace hm := iq c7 hm
      refine X_aload_n 0 dX11_fits_40 rfl rfl rfl ?_
      refine X_iload 5 dX11_fits_41 rfl ?_
      obtain ⟨q8, e9, hm⟩ := ob hm
      refine X_cV1 (ci := 10) (kX11_logsHold d (by omega) G e9) ml_X11_400 mi_X11_logsHold rfl cf_10 (g_K1 G) rfl rfl (Nat.le_refl _) ⟨Nat.le_refl _, Nat.le_refl _⟩ (Nat.le_of_ble_eq_true rfl) dX11_fits_43 ?_
      refine X_if_ne (tgt := 51) dX11_fits_46 (by decide) (fun c10 => ?_) (fun c10 => ?_)
      · replace hm := iq c10 hm
        refine X_iload 5 dX11_fits_51 rfl ?_
        refine X_iload_n 2 dX11_fits_53 rfl rfl ?_
        refine X_icmp_ne (tgt := 62) dX11_fits_54 (by decide) (fun c11 => ?_) (fun c11 => ?_)
        · replace hm := iq c11 hm
          exact kX11_fits_62 _ hd G ih hm
        · replace hm := ip c11 hm
          refine X_aload_n 0 dX11_fits_57 rfl rfl rfl ?_
          refine X_iload_n 3 dX11_fits_58 rfl rfl ?_
          obtain ⟨q17, e18, hm⟩ := ob hm
          refine X_cV0 (ci := 10) (kX11_noteSeen d (by omega) G e18) ml_X11_403 mi_X11_noteSeen rfl cf_10 (g_K1 G) rfl rfl (Nat.le_refl _) ⟨Nat.le_refl _, Nat.le_refl _⟩ (Nat.le_of_ble_eq_true rfl) dX11_fits_59 ?_
          exact kX11_fits_62 _ hd G ih hm
      · replace hm := ip c10 hm
        refine X_iconst (v := (0 : Int32)) dX11_fits_49 (by decide) ?_
        replace hm := Option.some.inj hm
        subst hm
        exact X_zret (v := (0 : Int32)) dX11_fits_50 rfl (x_nz (Or.inl rfl))
def mX11_fits (K : Nat → Nat × Nat) (P : Nat → Nat → Nat) (I : Nat → Nat → Int32) (L : Nat → Nat → Int64) (a1 : Int32) (a2 : Int32) (a3 : Int32) : Option (Int32 × (Nat → Nat → Int32) × (Nat → Nat → Int64)) := (Option.bind (mX10_lastLogHour I) (fun q1 => (Option.bind (mJ9_max_7cf53 a2 q1) (fun q3 => (Option.bind (mX6_copyFrom I L 92 ((P 12 0) + 8)) (fun q5 => (mX11_fits_33 K P xf q5.1 q5.2 a1 a2 a3 q3 (0 : Int32))))))))
set_option maxHeartbeats 400000 in
set_option maxRecDepth 100000 in
theorem kX11_fits {E : xE} {B : Nat} {n : Nat} {K : Nat → Nat × Nat} {P : Nat → Nat → Nat} {I : Nat → Nat → Int32} {L : Nat → Nat → Int64}  {a1 : Int32} {a2 : Int32} {a3 : Int32} {q : Int32 × (Nat → Nat → Int32) × (Nat → Nat → Int64)} (d : Nat) (hd : 6 ≤ d) (G : GW K P)   (hm : mX11_fits K P I L a1 a2 a3 = some q) : MX E B d 0 0 yX11_fits cX11_fits 6 (some .boolean) [.ref 1, .int a1, .int a2, .int a3] (n, K, P, I, L) (some (.int q.1), (n, K, P, q.2.1, q.2.2)) := by
  refine MX_of (lv := [(0, .ref 1), (1, .int a1), (2, .int a2), (3, .int a3)]) (by decide +kernel) (Nat.le_of_ble_eq_true rfl) rfl ?_
  obtain ⟨d, rfl⟩ : ∃ d0, d = d0 + 1 := ⟨d - 1, by omega⟩
  unfold mX11_fits at hm
  refine X_iload_n 2 dX11_fits_0 rfl rfl ?_
  refine X_aload_n 0 dX11_fits_1 rfl rfl rfl ?_
  refine X_getPe fl_X11_38 (g_K1 G) rfl (g_P1_6 G) dX11_fits_2 ?_
  obtain ⟨q1, e2, hm⟩ := ob hm
  refine X_cV1 (ci := 9) (kX10_lastLogHour d (by omega) G e2) ml_X11_389 mi_X10_lastLogHour rfl cf_9 (g_K12 G) rfl rfl (Nat.le_refl _) ⟨Nat.le_refl _, Nat.le_refl _⟩ (Nat.le_of_ble_eq_true rfl) dX11_fits_5 ?_
  obtain ⟨q3, e4, hm⟩ := ob hm
  refine X_cS1 (kJ9_max_7cf53 d (by omega) G e4) ml_X11_392 ms_J9_max_7cf53 rfl rfl (Nat.le_refl _) ⟨Nat.le_refl _, Nat.le_refl _⟩ (Nat.le_of_ble_eq_true rfl) dX11_fits_8 ?_
  refine X_istore (lv' := [(4, .int q3), (0, .ref 1), (1, .int a1), (2, .int a2), (3, .int a3)]) dX11_fits_11 (by decide) rfl ?_
  refine X_aload_n 1 dX11_fits_13 rfl rfl rfl ?_
  refine X_getPe fl_X11_49 (g_K1 G) rfl (g_P1_8 G) dX11_fits_14 ?_
  refine X_aload_n 1 dX11_fits_17 rfl rfl rfl ?_
  refine X_getPe fl_X11_38 (g_K1 G) rfl (g_P1_6 G) dX11_fits_18 ?_
  refine X_getP fl_X11_116 (g_K12 G) rfl dX11_fits_21 ?_
  refine X_getPe fl_X11_397 (gl9_st G (g_K12 G)) rfl (gl6_P16 G (gl9_st G (g_K12 G))) dX11_fits_24 ?_
  obtain ⟨q5, e6, hm⟩ := ob hm
  refine X_cV0 (ci := 5) (kX6_copyFrom d (by omega) G (g_K92 G) (gl6_K8 G (gl9_st G (g_K12 G))) e6) ml_X11_293 mi_X6_copyFrom rfl cf_5 (g_K92 G) rfl rfl (Nat.le_refl _) ⟨Nat.le_refl _, Nat.le_refl _⟩ (Nat.le_of_ble_eq_true rfl) dX11_fits_27 ?_
  refine X_iconst (v := (0 : Int32)) dX11_fits_30 (by decide) ?_
  refine X_istore (lv' := [(5, .int (0 : Int32)), (4, .int q3), (0, .ref 1), (1, .int a1), (2, .int a2), (3, .int a3)]) dX11_fits_31 (by decide) rfl ?_
  refine X_lv [2, 3, 4, 5, 1, 0] rfl (kX11_fits_33 _ hd G xf _ _ _ _ _ _ _  hm)
def mX11_ruled_33 (K : Nat → Nat × Nat) (P : Nat → Nat → Nat)  : Nat → (Nat → Nat → Int32) → (Nat → Nat → Int64) → Int32 → Int32 → Int32 → Int32 → Option (Int32 × (Nat → Nat → Int32) × (Nat → Nat → Int64))
  | 0, _, _, _, _, _, _ => none
  | f + 1, I, L, a1, a2, a3, a4 => (if (I 1 5) ≤ a4 then (if a1 = 0 then (some (a2, I, L)) else (some (a3, I, L))) else (Option.bind (mX11_fits K P I L a4 (-1 : Int32) (0 : Int32)) (fun q7 => (if q7.1 = 0 then (mX11_ruled_33 K P f q7.2.1 q7.2.2 a1 a2 a3 (a4 + 1)) else (if a2 = 0 then (mX11_ruled_33 K P f q7.2.1 q7.2.2 a1 (a2 + 1) a4 (a4 + 1)) else (mX11_ruled_33 K P f q7.2.1 q7.2.2 a1 (a2 + 1) a3 (a4 + 1)))))))
set_option maxHeartbeats 400000 in
set_option maxRecDepth 100000 in
theorem kX11_ruled_33 {E : xE} {B : Nat} {n : Nat} {K : Nat → Nat × Nat} {P : Nat → Nat → Nat}   {q : Int32 × (Nat → Nat → Int32) × (Nat → Nat → Int64)} (d : Nat) (hd : 7 ≤ d) (G : GW K P)   : ∀ (f : Nat) (I : Nat → Nat → Int32) (L : Nat → Nat → Int64) (a1 : Int32) (a2 : Int32) (a3 : Int32) (a4 : Int32), mX11_ruled_33 K P f I L a1 a2 a3 a4 = some q → X E B d 0 0 yX11_ruled cX11_ruled 5 (some .int) (some (.int q.1), (n, K, P, q.2.1, q.2.2)) 33 [(0, .ref 1), (1, .int a1), (2, .int a2), (3, .int a3), (4, .int a4)] [] 0 0 (n, K, P, I, L) := by
  obtain ⟨d, rfl⟩ : ∃ d0, d = d0 + 1 := ⟨d - 1, by omega⟩
  intro f
  induction f with
  | zero => intro _ _ _ _ _ _ hm; exact nomatch (show (none : Option (Int32 × (Nat → Nat → Int32) × (Nat → Nat → Int64))) = some q from hm)
  | succ f ih =>
    intro I L a1 a2 a3 a4 hm
    rw [mX11_ruled_33] at hm
    refine X_iload 4 dX11_ruled_33 rfl ?_
    refine X_aload_n 0 dX11_ruled_35 rfl rfl rfl ?_
    refine X_getI fl_X11_88 (g_K1 G) rfl dX11_ruled_36 ?_
    refine X_icmp_ge (tgt := 73) dX11_ruled_39 (by decide) (fun c5 => ?_) (fun c5 => ?_)
    · replace hm := ip c5 hm
      refine X_iload_n 1 dX11_ruled_73 rfl rfl ?_
      refine X_if_ne (tgt := 81) dX11_ruled_74 (by decide) (fun c6 => ?_) (fun c6 => ?_)
      · replace hm := iq c6 hm
        refine X_iload_n 3 dX11_ruled_81 rfl rfl ?_
        replace hm := Option.some.inj hm
        subst hm
        exact X_iret dX11_ruled_82 rfl
      · replace hm := ip c6 hm
        refine X_iload_n 2 dX11_ruled_77 rfl rfl ?_
        refine X_goto (tgt := 82) dX11_ruled_78 (by decide) ?_
        replace hm := Option.some.inj hm
        subst hm
        exact X_iret dX11_ruled_82 rfl
    · replace hm := iq c5 hm
      refine X_aload_n 0 dX11_ruled_42 rfl rfl rfl ?_
      refine X_iload 4 dX11_ruled_43 rfl ?_
      refine X_iconst (v := (-1 : Int32)) dX11_ruled_45 (by decide) ?_
      refine X_iconst (v := (0 : Int32)) dX11_ruled_46 (by decide) ?_
      obtain ⟨q7, e8, hm⟩ := ob hm
      refine X_cV1 (ci := 10) (kX11_fits d (by omega) G e8) ml_X11_383 mi_X11_fits rfl cf_10 (g_K1 G) rfl rfl (Nat.le_refl _) ⟨Nat.le_refl _, Nat.le_refl _⟩ (Nat.le_of_ble_eq_true rfl) dX11_ruled_47 ?_
      refine X_if_eq (tgt := 67) dX11_ruled_50 (by decide) (fun c9 => ?_) (fun c9 => ?_)
      · replace hm := ip c9 hm
        refine X_iinc (lv' := [(4, .int (a4 + 1)), (0, .ref 1), (1, .int a1), (2, .int a2), (3, .int a3)]) 4 dX11_ruled_67 rfl rfl (by decide) rfl ?_
        refine X_goto (tgt := 33) dX11_ruled_70 (by decide) ?_
        exact X_lv [1, 2, 3, 4, 0] rfl (ih _ _ _ _ _ _ hm)
      · replace hm := iq c9 hm
        refine X_iload_n 2 dX11_ruled_53 rfl rfl ?_
        refine X_if_ne (tgt := 62) dX11_ruled_54 (by decide) (fun c10 => ?_) (fun c10 => ?_)
        · replace hm := iq c10 hm
          refine X_iload_n 3 dX11_ruled_62 rfl rfl ?_
          refine X_istore_n (lv' := [(3, .int a3), (0, .ref 1), (1, .int a1), (2, .int a2), (4, .int a4)]) dX11_ruled_63 rfl (by decide) rfl ?_
          refine X_iinc (lv' := [(2, .int (a2 + 1)), (3, .int a3), (0, .ref 1), (1, .int a1), (4, .int a4)]) 3 dX11_ruled_64 rfl rfl (by decide) rfl ?_
          refine X_iinc (lv' := [(4, .int (a4 + 1)), (2, .int (a2 + 1)), (3, .int a3), (0, .ref 1), (1, .int a1)]) 4 dX11_ruled_67 rfl rfl (by decide) rfl ?_
          refine X_goto (tgt := 33) dX11_ruled_70 (by decide) ?_
          exact X_lv [3, 4, 1, 2, 0] rfl (ih _ _ _ _ _ _ hm)
        · replace hm := ip c10 hm
          refine X_iload 4 dX11_ruled_57 rfl ?_
          refine X_goto (tgt := 63) dX11_ruled_59 (by decide) ?_
          refine X_istore_n (lv' := [(3, .int a4), (0, .ref 1), (1, .int a1), (2, .int a2), (4, .int a4)]) dX11_ruled_63 rfl (by decide) rfl ?_
          refine X_iinc (lv' := [(2, .int (a2 + 1)), (3, .int a4), (0, .ref 1), (1, .int a1), (4, .int a4)]) 3 dX11_ruled_64 rfl rfl (by decide) rfl ?_
          refine X_iinc (lv' := [(4, .int (a4 + 1)), (2, .int (a2 + 1)), (3, .int a4), (0, .ref 1), (1, .int a1)]) 4 dX11_ruled_67 rfl rfl (by decide) rfl ?_
          refine X_goto (tgt := 33) dX11_ruled_70 (by decide) ?_
          exact X_lv [3, 4, 1, 2, 0] rfl (ih _ _ _ _ _ _ hm)
def mX11_ruled (K : Nat → Nat × Nat) (P : Nat → Nat → Nat) (I : Nat → Nat → Int32) (L : Nat → Nat → Int64) (a1 : Int32) : Option (Int32 × (Nat → Nat → Int32) × (Nat → Nat → Int64)) := (if (I (P 12 0) 0) = 0 then (some ((-3 : Int32), I, L)) else (Option.bind (mX11_isWithin a1 (0 : Int32) (1 : Int32)) (fun q2 => (if q2 = 0 then (some ((-3 : Int32), I, L)) else (mX11_ruled_33 K P xf I L a1 (0 : Int32) (-2 : Int32) (-1 : Int32))))))
set_option maxHeartbeats 400000 in
set_option maxRecDepth 100000 in
theorem kX11_ruled {E : xE} {B : Nat} {n : Nat} {K : Nat → Nat × Nat} {P : Nat → Nat → Nat} {I : Nat → Nat → Int32} {L : Nat → Nat → Int64}  {a1 : Int32} {q : Int32 × (Nat → Nat → Int32) × (Nat → Nat → Int64)} (d : Nat) (hd : 7 ≤ d) (G : GW K P)   (hm : mX11_ruled K P I L a1 = some q) : MX E B d 0 0 yX11_ruled cX11_ruled 5 (some .int) [.ref 1, .int a1] (n, K, P, I, L) (some (.int q.1), (n, K, P, q.2.1, q.2.2)) := by
  refine MX_of (lv := [(0, .ref 1), (1, .int a1)]) (by decide +kernel) (Nat.le_of_ble_eq_true rfl) rfl ?_
  obtain ⟨d, rfl⟩ : ∃ d0, d = d0 + 1 := ⟨d - 1, by omega⟩
  unfold mX11_ruled at hm
  refine X_aload_n 0 dX11_ruled_0 rfl rfl rfl ?_
  refine X_getPe fl_X11_38 (g_K1 G) rfl (g_P1_6 G) dX11_ruled_1 ?_
  refine X_getP fl_X11_116 (g_K12 G) rfl dX11_ruled_4 ?_
  refine X_getI fl_X11_219 (gl9_st G (g_K12 G)) rfl dX11_ruled_7 ?_
  refine X_if_eq (tgt := 22) dX11_ruled_10 (by decide) (fun c1 => ?_) (fun c1 => ?_)
  · replace hm := ip c1 hm
    refine X_bipush (v := (-3 : Int32)) dX11_ruled_22 (by decide) ?_
    replace hm := Option.some.inj hm
    subst hm
    exact X_iret dX11_ruled_24 rfl
  · replace hm := iq c1 hm
    refine X_iload_n 1 dX11_ruled_13 rfl rfl ?_
    refine X_iconst (v := (0 : Int32)) dX11_ruled_14 (by decide) ?_
    refine X_iconst (v := (1 : Int32)) dX11_ruled_15 (by decide) ?_
    obtain ⟨q2, e3, hm⟩ := ob hm
    refine X_cS1 (kX11_isWithin d (by omega) G e3) ml_X11_285 ms_X11_isWithin rfl rfl (Nat.le_refl _) ⟨Nat.le_refl _, Nat.le_refl _⟩ (Nat.le_of_ble_eq_true rfl) dX11_ruled_16 ?_
    refine X_if_ne (tgt := 25) dX11_ruled_19 (by decide) (fun c4 => ?_) (fun c4 => ?_)
    · replace hm := iq c4 hm
      refine X_iconst (v := (0 : Int32)) dX11_ruled_25 (by decide) ?_
      refine X_istore_n (lv' := [(2, .int (0 : Int32)), (0, .ref 1), (1, .int a1)]) dX11_ruled_26 rfl (by decide) rfl ?_
      refine X_bipush (v := (-2 : Int32)) dX11_ruled_27 (by decide) ?_
      refine X_istore_n (lv' := [(3, .int (-2 : Int32)), (2, .int (0 : Int32)), (0, .ref 1), (1, .int a1)]) dX11_ruled_29 rfl (by decide) rfl ?_
      refine X_iconst (v := (-1 : Int32)) dX11_ruled_30 (by decide) ?_
      refine X_istore (lv' := [(4, .int (-1 : Int32)), (3, .int (-2 : Int32)), (2, .int (0 : Int32)), (0, .ref 1), (1, .int a1)]) dX11_ruled_31 (by decide) rfl ?_
      refine X_lv [3, 4, 2, 1, 0] rfl (kX11_ruled_33 _ hd G xf _ _ _ _ _ _  hm)
    · replace hm := ip c4 hm
      refine X_bipush (v := (-3 : Int32)) dX11_ruled_22 (by decide) ?_
      replace hm := Option.some.inj hm
      subst hm
      exact X_iret dX11_ruled_24 rfl
def mX11_mostAlike_17 (I : Nat → Nat → Int32) (e57 : Int32 → Int32 → Int32 → Int32 → Int32 → Option (Int32)) : Nat → Int32 → Int32 → Int32 → Int32 → Int32 → Int32 → Option (Int32)
  | 0, _, _, _, _, _, _ => none
  | f + 1, a1, a2, a3, a4, a5, a6 => (if a2 ≤ a6 then (e57 a1 a2 a3 a4 a5) else (if inb ((a6 * (4 : Int32)) + a1) 28 = true then (if inb ((a4 * (4 : Int32)) + a1) 28 = true then (if (I 122 (ix ((a6 * (4 : Int32)) + a1))) = (I 122 (ix ((a4 * (4 : Int32)) + a1))) then (mX11_mostAlike_17 I e57 f a1 a2 a3 a4 (a5 + 1) (a6 + 1)) else (mX11_mostAlike_17 I e57 f a1 a2 a3 a4 a5 (a6 + 1))) else none) else none))
set_option maxHeartbeats 400000 in
set_option maxRecDepth 100000 in
theorem kX11_mostAlike_17 {E : xE} {B : Nat} {n : Nat} {K : Nat → Nat × Nat} {P : Nat → Nat → Nat} {I : Nat → Nat → Int32} {L : Nat → Nat → Int64}  {e57 : Int32 → Int32 → Int32 → Int32 → Int32 → Option (Int32)} {q : Int32} (d : Nat) (hd : 1 ≤ d) (G : GW K P)  (he57 : ∀ (a1 : Int32) (a2 : Int32) (a3 : Int32) (a4 : Int32) (a5 : Int32), e57 a1 a2 a3 a4 a5 = some q → X E B d 0 0 yX11_mostAlike cX11_mostAlike 7 (some .int) (some (.int q), (n, K, P, I, L)) 57 [(0, .ref 1), (1, .int a1), (2, .int a2), (3, .int a3), (4, .int a4), (5, .int a5)] [] 0 0 (n, K, P, I, L)) : ∀ (f : Nat) (a1 : Int32) (a2 : Int32) (a3 : Int32) (a4 : Int32) (a5 : Int32) (a6 : Int32), mX11_mostAlike_17 I e57 f a1 a2 a3 a4 a5 a6 = some q → X E B d 0 0 yX11_mostAlike cX11_mostAlike 7 (some .int) (some (.int q), (n, K, P, I, L)) 17 [(0, .ref 1), (1, .int a1), (2, .int a2), (3, .int a3), (4, .int a4), (5, .int a5), (6, .int a6)] [] 0 0 (n, K, P, I, L) := by
  obtain ⟨d, rfl⟩ : ∃ d0, d = d0 + 1 := ⟨d - 1, by omega⟩
  intro f
  induction f with
  | zero => intro _ _ _ _ _ _ hm; exact nomatch (show (none : Option (Int32)) = some q from hm)
  | succ f ih =>
    intro a1 a2 a3 a4 a5 a6 hm
    rw [mX11_mostAlike_17] at hm
    refine X_iload 6 dX11_mostAlike_17 rfl ?_
    refine X_iload_n 2 dX11_mostAlike_19 rfl rfl ?_
    refine X_icmp_ge (tgt := 57) dX11_mostAlike_20 (by decide) (fun c2 => ?_) (fun c2 => ?_)
    · replace hm := ip c2 hm
      exact X_lv [0, 1, 2, 3, 4, 5] rfl (he57 _ _ _ _ _ hm)
    · replace hm := iq c2 hm
      refine X_aload_n 0 dX11_mostAlike_23 rfl rfl rfl ?_
      refine X_getPe fl_X11_81 (g_K1 G) rfl (g_P1_14 G) dX11_mostAlike_24 ?_
      refine X_iload 6 dX11_mostAlike_27 rfl ?_
      refine X_iconst (v := (4 : Int32)) dX11_mostAlike_29 (by decide) ?_
      refine X_imul dX11_mostAlike_30 ?_
      refine X_iload_n 1 dX11_mostAlike_31 rfl rfl ?_
      refine X_iadd dX11_mostAlike_32 ?_
      obtain ⟨g3, hm⟩ := og hm
      refine X_ialdJ (g_K122 G) g3 rfl dX11_mostAlike_33 ?_
      refine X_aload_n 0 dX11_mostAlike_34 rfl rfl rfl ?_
      refine X_getPe fl_X11_81 (g_K1 G) rfl (g_P1_14 G) dX11_mostAlike_35 ?_
      refine X_iload 4 dX11_mostAlike_38 rfl ?_
      refine X_iconst (v := (4 : Int32)) dX11_mostAlike_40 (by decide) ?_
      refine X_imul dX11_mostAlike_41 ?_
      refine X_iload_n 1 dX11_mostAlike_42 rfl rfl ?_
      refine X_iadd dX11_mostAlike_43 ?_
      obtain ⟨g4, hm⟩ := og hm
      refine X_ialdJ (g_K122 G) g4 rfl dX11_mostAlike_44 ?_
      refine X_icmp_ne (tgt := 51) dX11_mostAlike_45 (by decide) (fun c5 => ?_) (fun c5 => ?_)
      · replace hm := iq c5 hm
        refine X_iinc (lv' := [(6, .int (a6 + 1)), (0, .ref 1), (1, .int a1), (2, .int a2), (3, .int a3), (4, .int a4), (5, .int a5)]) 6 dX11_mostAlike_51 rfl rfl (by decide) rfl ?_
        refine X_goto (tgt := 17) dX11_mostAlike_54 (by decide) ?_
        exact X_lv [1, 2, 3, 4, 5, 6, 0] rfl (ih _ _ _ _ _ _ hm)
      · replace hm := ip c5 hm
        refine X_iinc (lv' := [(5, .int (a5 + 1)), (0, .ref 1), (1, .int a1), (2, .int a2), (3, .int a3), (4, .int a4), (6, .int a6)]) 5 dX11_mostAlike_48 rfl rfl (by decide) rfl ?_
        refine X_iinc (lv' := [(6, .int (a6 + 1)), (5, .int (a5 + 1)), (0, .ref 1), (1, .int a1), (2, .int a2), (3, .int a3), (4, .int a4)]) 6 dX11_mostAlike_51 rfl rfl (by decide) rfl ?_
        refine X_goto (tgt := 17) dX11_mostAlike_54 (by decide) ?_
        exact X_lv [2, 3, 4, 5, 6, 1, 0] rfl (ih _ _ _ _ _ _ hm)
def mX11_mostAlike_5 (I : Nat → Nat → Int32)  : Nat → Int32 → Int32 → Int32 → Int32 → Option (Int32)
  | 0, _, _, _, _ => none
  | f + 1, a1, a2, a3, a4 => (if a2 ≤ a4 then (some a3) else (mX11_mostAlike_17 I (fun (a1_6 : Int32) (a2_6 : Int32) (a3_6 : Int32) (a4_6 : Int32) (a5_6 : Int32) => (Option.bind (mJ9_max_7cf53 a3_6 a5_6) (fun q7 => (mX11_mostAlike_5 I f a1_6 a2_6 q7 (a4_6 + 1))))) xf a1 a2 a3 a4 (0 : Int32) (0 : Int32)))
set_option maxHeartbeats 400000 in
set_option maxRecDepth 100000 in
theorem kX11_mostAlike_5 {E : xE} {B : Nat} {n : Nat} {K : Nat → Nat × Nat} {P : Nat → Nat → Nat} {I : Nat → Nat → Int32} {L : Nat → Nat → Int64}   {q : Int32} (d : Nat) (hd : 1 ≤ d) (G : GW K P)   : ∀ (f : Nat) (a1 : Int32) (a2 : Int32) (a3 : Int32) (a4 : Int32), mX11_mostAlike_5 I f a1 a2 a3 a4 = some q → X E B d 0 0 yX11_mostAlike cX11_mostAlike 7 (some .int) (some (.int q), (n, K, P, I, L)) 5 [(0, .ref 1), (1, .int a1), (2, .int a2), (3, .int a3), (4, .int a4)] [] 0 0 (n, K, P, I, L) := by
  obtain ⟨d, rfl⟩ : ∃ d0, d = d0 + 1 := ⟨d - 1, by omega⟩
  intro f
  induction f with
  | zero => intro _ _ _ _ hm; exact nomatch (show (none : Option (Int32)) = some q from hm)
  | succ f ih =>
    intro a1 a2 a3 a4 hm
    rw [mX11_mostAlike_5] at hm
    refine X_iload 4 dX11_mostAlike_5 rfl ?_
    refine X_iload_n 2 dX11_mostAlike_7 rfl rfl ?_
    refine X_icmp_ge (tgt := 70) dX11_mostAlike_8 (by decide) (fun c1 => ?_) (fun c1 => ?_)
    · replace hm := ip c1 hm
      refine X_iload_n 3 dX11_mostAlike_70 rfl rfl ?_
      replace hm := Option.some.inj hm
      subst hm
      exact X_iret dX11_mostAlike_71 rfl
    · replace hm := iq c1 hm
      refine X_iconst (v := (0 : Int32)) dX11_mostAlike_11 (by decide) ?_
      refine X_istore (lv' := [(5, .int (0 : Int32)), (0, .ref 1), (1, .int a1), (2, .int a2), (3, .int a3), (4, .int a4)]) dX11_mostAlike_12 (by decide) rfl ?_
      refine X_iconst (v := (0 : Int32)) dX11_mostAlike_14 (by decide) ?_
      refine X_istore (lv' := [(6, .int (0 : Int32)), (5, .int (0 : Int32)), (0, .ref 1), (1, .int a1), (2, .int a2), (3, .int a3), (4, .int a4)]) dX11_mostAlike_15 (by decide) rfl ?_
      refine X_lv [2, 3, 4, 5, 6, 1, 0] rfl (kX11_mostAlike_17 _ hd G (fun a1_6 a2_6 a3_6 a4_6 a5_6 hm => ?_) xf _ _ _ _ _ _  hm)
      refine X_iload_n 3 dX11_mostAlike_57 rfl rfl ?_
      refine X_iload 5 dX11_mostAlike_58 rfl ?_
      obtain ⟨q7, e8, hm⟩ := ob hm
      refine X_cS1 (kJ9_max_7cf53 d (by omega) G e8) ml_X11_392 ms_J9_max_7cf53 rfl rfl (Nat.le_refl _) ⟨Nat.le_refl _, Nat.le_refl _⟩ (Nat.le_of_ble_eq_true rfl) dX11_mostAlike_60 ?_
      refine X_istore_n (lv' := [(3, .int q7), (0, .ref 1), (1, .int a1_6), (2, .int a2_6), (4, .int a4_6), (5, .int a5_6)]) dX11_mostAlike_63 rfl (by decide) rfl ?_
      refine X_iinc (lv' := [(4, .int (a4_6 + 1)), (3, .int q7), (0, .ref 1), (1, .int a1_6), (2, .int a2_6), (5, .int a5_6)]) 4 dX11_mostAlike_64 rfl rfl (by decide) rfl ?_
      refine X_goto (tgt := 5) dX11_mostAlike_67 (by decide) ?_
      exact X_lv [2, 3, 4, 1, 0] rfl (ih _ _ _ _ hm)
def mX11_mostAlike (I : Nat → Nat → Int32) (a1 : Int32) (a2 : Int32) : Option (Int32) := (mX11_mostAlike_5 I xf a1 a2 (0 : Int32) (0 : Int32))
set_option maxHeartbeats 400000 in
set_option maxRecDepth 100000 in
theorem kX11_mostAlike {E : xE} {B : Nat} {n : Nat} {K : Nat → Nat × Nat} {P : Nat → Nat → Nat} {I : Nat → Nat → Int32} {L : Nat → Nat → Int64}  {a1 : Int32} {a2 : Int32} {q : Int32} (d : Nat) (hd : 1 ≤ d) (G : GW K P)   (hm : mX11_mostAlike I a1 a2 = some q) : MX E B d 0 0 yX11_mostAlike cX11_mostAlike 7 (some .int) [.ref 1, .int a1, .int a2] (n, K, P, I, L) (some (.int q), (n, K, P, I, L)) := by
  refine MX_of (lv := [(0, .ref 1), (1, .int a1), (2, .int a2)]) (by decide +kernel) (Nat.le_of_ble_eq_true rfl) rfl ?_
  obtain ⟨d, rfl⟩ : ∃ d0, d = d0 + 1 := ⟨d - 1, by omega⟩
  unfold mX11_mostAlike at hm
  refine X_iconst (v := (0 : Int32)) dX11_mostAlike_0 (by decide) ?_
  refine X_istore_n (lv' := [(3, .int (0 : Int32)), (0, .ref 1), (1, .int a1), (2, .int a2)]) dX11_mostAlike_1 rfl (by decide) rfl ?_
  refine X_iconst (v := (0 : Int32)) dX11_mostAlike_2 (by decide) ?_
  refine X_istore (lv' := [(4, .int (0 : Int32)), (3, .int (0 : Int32)), (0, .ref 1), (1, .int a1), (2, .int a2)]) dX11_mostAlike_3 (by decide) rfl ?_
  refine X_lv [2, 3, 4, 1, 0] rfl (kX11_mostAlike_5 _ hd G xf _ _ _ _  hm)
def mX11_look_39 (K : Nat → Nat × Nat) (P : Nat → Nat → Nat) (e68 : (Nat → Nat → Int32) → (Nat → Nat → Int64) → Int32 → Int32 → Option (Int32 × (Nat → Nat → Int32) × (Nat → Nat → Int64))) : Nat → (Nat → Nat → Int32) → (Nat → Nat → Int64) → Int32 → Int32 → Int32 → Int32 → Option (Int32 × (Nat → Nat → Int32) × (Nat → Nat → Int64))
  | 0, _, _, _, _, _, _ => none
  | f + 1, I, L, a1, a2, a3, a4 => (if (I 1 5) ≤ a4 then (e68 I L a2 a3) else (Option.bind (mX11_fits K P I L a4 a1 a3) (fun q9 => (if q9.1 = 0 then (mX11_look_39 K P e68 f q9.2.1 q9.2.2 a1 a2 a3 (a4 + 1)) else (mX11_look_39 K P e68 f q9.2.1 q9.2.2 a1 a2 (a3 + 1) (a4 + 1))))))
set_option maxHeartbeats 400000 in
set_option maxRecDepth 100000 in
theorem kX11_look_39 {E : xE} {B : Nat} {n : Nat} {K : Nat → Nat × Nat} {P : Nat → Nat → Nat}  {e68 : (Nat → Nat → Int32) → (Nat → Nat → Int64) → Int32 → Int32 → Option (Int32 × (Nat → Nat → Int32) × (Nat → Nat → Int64))} {q : Int32 × (Nat → Nat → Int32) × (Nat → Nat → Int64)} (d : Nat) (hd : 7 ≤ d) (G : GW K P)  (he68 : ∀ (I : Nat → Nat → Int32) (L : Nat → Nat → Int64) (a2 : Int32) (a3 : Int32), e68 I L a2 a3 = some q → X E B d 0 0 yX11_look cX11_look 8 (some .int) (some (.int q.1), (n, K, P, q.2.1, q.2.2)) 68 [(0, .ref 1), (2, .int a2), (3, .int a3)] [] 0 0 (n, K, P, I, L)) : ∀ (f : Nat) (I : Nat → Nat → Int32) (L : Nat → Nat → Int64) (a1 : Int32) (a2 : Int32) (a3 : Int32) (a4 : Int32), mX11_look_39 K P e68 f I L a1 a2 a3 a4 = some q → X E B d 0 0 yX11_look cX11_look 8 (some .int) (some (.int q.1), (n, K, P, q.2.1, q.2.2)) 39 [(0, .ref 1), (1, .int a1), (2, .int a2), (3, .int a3), (4, .int a4)] [] 0 0 (n, K, P, I, L) := by
  obtain ⟨d, rfl⟩ : ∃ d0, d = d0 + 1 := ⟨d - 1, by omega⟩
  intro f
  induction f with
  | zero => intro _ _ _ _ _ _ hm; exact nomatch (show (none : Option (Int32 × (Nat → Nat → Int32) × (Nat → Nat → Int64))) = some q from hm)
  | succ f ih =>
    intro I L a1 a2 a3 a4 hm
    rw [mX11_look_39] at hm
    refine X_iload 4 dX11_look_39 rfl ?_
    refine X_aload_n 0 dX11_look_41 rfl rfl rfl ?_
    refine X_getI fl_X11_88 (g_K1 G) rfl dX11_look_42 ?_
    refine X_icmp_ge (tgt := 68) dX11_look_45 (by decide) (fun c8 => ?_) (fun c8 => ?_)
    · replace hm := ip c8 hm
      exact X_lv [0, 2, 3] rfl (he68 _ _ _ _ hm)
    · replace hm := iq c8 hm
      refine X_aload_n 0 dX11_look_48 rfl rfl rfl ?_
      refine X_iload 4 dX11_look_49 rfl ?_
      refine X_iload_n 1 dX11_look_51 rfl rfl ?_
      refine X_iload_n 3 dX11_look_52 rfl rfl ?_
      obtain ⟨q9, e10, hm⟩ := ob hm
      refine X_cV1 (ci := 10) (kX11_fits d (by omega) G e10) ml_X11_383 mi_X11_fits rfl cf_10 (g_K1 G) rfl rfl (Nat.le_refl _) ⟨Nat.le_refl _, Nat.le_refl _⟩ (Nat.le_of_ble_eq_true rfl) dX11_look_53 ?_
      refine X_if_eq (tgt := 62) dX11_look_56 (by decide) (fun c11 => ?_) (fun c11 => ?_)
      · replace hm := ip c11 hm
        refine X_iinc (lv' := [(4, .int (a4 + 1)), (0, .ref 1), (1, .int a1), (2, .int a2), (3, .int a3)]) 4 dX11_look_62 rfl rfl (by decide) rfl ?_
        refine X_goto (tgt := 39) dX11_look_65 (by decide) ?_
        exact X_lv [1, 2, 3, 4, 0] rfl (ih _ _ _ _ _ _ hm)
      · replace hm := iq c11 hm
        refine X_iinc (lv' := [(3, .int (a3 + 1)), (0, .ref 1), (1, .int a1), (2, .int a2), (4, .int a4)]) 3 dX11_look_59 rfl rfl (by decide) rfl ?_
        refine X_iinc (lv' := [(4, .int (a4 + 1)), (3, .int (a3 + 1)), (0, .ref 1), (1, .int a1), (2, .int a2)]) 4 dX11_look_62 rfl rfl (by decide) rfl ?_
        refine X_goto (tgt := 39) dX11_look_65 (by decide) ?_
        exact X_lv [2, 3, 4, 1, 0] rfl (ih _ _ _ _ _ _ hm)
def mX11_look_86 (K : Nat → Nat × Nat) (P : Nat → Nat → Nat)  : Nat → (Nat → Nat → Int32) → (Nat → Nat → Int64) → Int32 → Int32 → Int32 → Int32 → Int32 → Option (Int32 × (Nat → Nat → Int32) × (Nat → Nat → Int64))
  | 0, _, _, _, _, _, _, _ => none
  | f + 1, I, L, a2, a3, a4, a5, a6 => (if (I (P 12 0) 5) ≤ a6 then (if a4 = (-2 : Int32) then (some (a4, I, L)) else (if a2 = 0 then (some (a4, I, L)) else (some (a5, I, L)))) else (Option.bind (mX11_mostAlike I a6 a3) (fun q17 => (if a5 ≤ q17 then (mX11_look_86 K P f I L a2 a3 a4 a5 (a6 + 1)) else (mX11_look_86 K P f I L a2 a3 a6 q17 (a6 + 1))))))
set_option maxHeartbeats 400000 in
set_option maxRecDepth 100000 in
theorem kX11_look_86 {E : xE} {B : Nat} {n : Nat} {K : Nat → Nat × Nat} {P : Nat → Nat → Nat}   {q : Int32 × (Nat → Nat → Int32) × (Nat → Nat → Int64)} (d : Nat) (hd : 7 ≤ d) (G : GW K P)   : ∀ (f : Nat) (I : Nat → Nat → Int32) (L : Nat → Nat → Int64) (a2 : Int32) (a3 : Int32) (a4 : Int32) (a5 : Int32) (a6 : Int32), mX11_look_86 K P f I L a2 a3 a4 a5 a6 = some q → X E B d 0 0 yX11_look cX11_look 8 (some .int) (some (.int q.1), (n, K, P, q.2.1, q.2.2)) 86 [(0, .ref 1), (2, .int a2), (3, .int a3), (4, .int a4), (5, .int a5), (6, .int a6)] [] 0 0 (n, K, P, I, L) := by
  obtain ⟨d, rfl⟩ : ∃ d0, d = d0 + 1 := ⟨d - 1, by omega⟩
  intro f
  induction f with
  | zero => intro _ _ _ _ _ _ _ hm; exact nomatch (show (none : Option (Int32 × (Nat → Nat → Int32) × (Nat → Nat → Int64))) = some q from hm)
  | succ f ih =>
    intro I L a2 a3 a4 a5 a6 hm
    rw [mX11_look_86] at hm
    refine X_iload 5 dX11_look_86 rfl ?_
    refine X_aload_n 0 dX11_look_88 rfl rfl rfl ?_
    refine X_getPe fl_X11_38 (g_K1 G) rfl (g_P1_6 G) dX11_look_89 ?_
    refine X_getP fl_X11_116 (g_K12 G) rfl dX11_look_92 ?_
    refine X_getI fl_X11_136 (gl9_st G (g_K12 G)) rfl dX11_look_95 ?_
    refine X_icmp_ge (tgt := 131) dX11_look_98 (by decide) (fun c14 => ?_) (fun c14 => ?_)
    · replace hm := ip c14 hm
      refine X_iload 3 dX11_look_131 rfl ?_
      refine X_bipush (v := (-2 : Int32)) dX11_look_133 (by decide) ?_
      refine X_icmp_eq (tgt := 142) dX11_look_135 (by decide) (fun c15 => ?_) (fun c15 => ?_)
      · replace hm := ip c15 hm
        refine X_iload 3 dX11_look_142 rfl ?_
        refine X_goto (tgt := 149) dX11_look_144 (by decide) ?_
        replace hm := Option.some.inj hm
        subst hm
        exact X_iret dX11_look_149 rfl
      · replace hm := iq c15 hm
        refine X_iload_n 1 dX11_look_138 rfl rfl ?_
        refine X_if_ne (tgt := 147) dX11_look_139 (by decide) (fun c16 => ?_) (fun c16 => ?_)
        · replace hm := iq c16 hm
          refine X_iload 4 dX11_look_147 rfl ?_
          replace hm := Option.some.inj hm
          subst hm
          exact X_iret dX11_look_149 rfl
        · replace hm := ip c16 hm
          refine X_iload 3 dX11_look_142 rfl ?_
          refine X_goto (tgt := 149) dX11_look_144 (by decide) ?_
          replace hm := Option.some.inj hm
          subst hm
          exact X_iret dX11_look_149 rfl
    · replace hm := iq c14 hm
      refine X_aload_n 0 dX11_look_101 rfl rfl rfl ?_
      refine X_iload 5 dX11_look_102 rfl ?_
      refine X_iload_n 2 dX11_look_104 rfl rfl ?_
      obtain ⟨q17, e18, hm⟩ := ob hm
      refine X_cV1 (ci := 10) (kX11_mostAlike d (by omega) G e18) ml_X11_386 mi_X11_mostAlike rfl cf_10 (g_K1 G) rfl rfl (Nat.le_refl _) ⟨Nat.le_refl _, Nat.le_refl _⟩ (Nat.le_of_ble_eq_true rfl) dX11_look_105 ?_
      refine X_istore (lv' := [(7, .int q17), (0, .ref 1), (2, .int a2), (3, .int a3), (4, .int a4), (5, .int a5), (6, .int a6)]) dX11_look_108 (by decide) rfl ?_
      refine X_iload 0 dX11_look_110 rfl ?_
      refine X_iload 5 dX11_look_112 rfl ?_
      refine X_icmp_ge (tgt := 125) dX11_look_114 (by decide) (fun c19 => ?_) (fun c19 => ?_)
      · replace hm := ip c19 hm
        refine X_iinc (lv' := [(6, .int (a6 + 1)), (7, .int q17), (0, .ref 1), (2, .int a2), (3, .int a3), (4, .int a4), (5, .int a5)]) 6 dX11_look_125 rfl rfl (by decide) rfl ?_
        refine X_goto (tgt := 86) dX11_look_128 (by decide) ?_
        exact X_lv [2, 3, 4, 5, 6, 0] rfl (ih _ _ _ _ _ _ _ hm)
      · replace hm := iq c19 hm
        refine X_iload 0 dX11_look_117 rfl ?_
        refine X_istore (lv' := [(5, .int q17), (7, .int q17), (0, .ref 1), (2, .int a2), (3, .int a3), (4, .int a4), (6, .int a6)]) dX11_look_119 (by decide) rfl ?_
        refine X_iload 6 dX11_look_121 rfl ?_
        refine X_istore (lv' := [(4, .int a6), (5, .int q17), (7, .int q17), (0, .ref 1), (2, .int a2), (3, .int a3), (6, .int a6)]) dX11_look_123 (by decide) rfl ?_
        refine X_iinc (lv' := [(6, .int (a6 + 1)), (4, .int a6), (5, .int q17), (7, .int q17), (0, .ref 1), (2, .int a2), (3, .int a3)]) 6 dX11_look_125 rfl rfl (by decide) rfl ?_
        refine X_goto (tgt := 86) dX11_look_128 (by decide) ?_
        exact X_lv [4, 5, 6, 1, 2, 0] rfl (ih _ _ _ _ _ _ _ hm)
def mX11_look (K : Nat → Nat × Nat) (P : Nat → Nat → Nat) (I : Nat → Nat → Int32) (L : Nat → Nat → Int64) (a1 : Int32) (a2 : Int32) : Option (Int32 × (Nat → Nat → Int32) × (Nat → Nat → Int64)) := (if (I (P 12 0) 0) = 0 then (some ((-1 : Int32), I, L)) else (Option.bind (mX11_isWithin a1 (0 : Int32) (99 : Int32)) (fun q2 => (if q2 = 0 then (some ((-1 : Int32), I, L)) else (Option.bind (mX11_isWithin a2 (0 : Int32) (1 : Int32)) (fun q5 => (if q5 = 0 then (some ((-1 : Int32), I, L)) else (mX11_look_39 K P (fun (I_12 : (Nat → Nat → Int32)) (L_12 : (Nat → Nat → Int64)) (a2_12 : Int32) (a3_12 : Int32) => (if a3_12 = 0 then (some ((-2 : Int32), I_12, L_12)) else (mX11_look_86 K P xf I_12 L_12 a2_12 a3_12 (-2 : Int32) (8 : Int32) (0 : Int32)))) xf I L a1 a2 (0 : Int32) (-1 : Int32)))))))))
set_option maxHeartbeats 400000 in
set_option maxRecDepth 100000 in
theorem kX11_look {E : xE} {B : Nat} {n : Nat} {K : Nat → Nat × Nat} {P : Nat → Nat → Nat} {I : Nat → Nat → Int32} {L : Nat → Nat → Int64}  {a1 : Int32} {a2 : Int32} {q : Int32 × (Nat → Nat → Int32) × (Nat → Nat → Int64)} (d : Nat) (hd : 7 ≤ d) (G : GW K P)   (hm : mX11_look K P I L a1 a2 = some q) : MX E B d 0 0 yX11_look cX11_look 8 (some .int) [.ref 1, .int a1, .int a2] (n, K, P, I, L) (some (.int q.1), (n, K, P, q.2.1, q.2.2)) := by
  refine MX_of (lv := [(0, .ref 1), (1, .int a1), (2, .int a2)]) (by decide +kernel) (Nat.le_of_ble_eq_true rfl) rfl ?_
  obtain ⟨d, rfl⟩ : ∃ d0, d = d0 + 1 := ⟨d - 1, by omega⟩
  unfold mX11_look at hm
  refine X_aload_n 0 dX11_look_0 rfl rfl rfl ?_
  refine X_getPe fl_X11_38 (g_K1 G) rfl (g_P1_6 G) dX11_look_1 ?_
  refine X_getP fl_X11_116 (g_K12 G) rfl dX11_look_4 ?_
  refine X_getI fl_X11_219 (gl9_st G (g_K12 G)) rfl dX11_look_7 ?_
  refine X_if_eq (tgt := 32) dX11_look_10 (by decide) (fun c1 => ?_) (fun c1 => ?_)
  · replace hm := ip c1 hm
    refine X_iconst (v := (-1 : Int32)) dX11_look_32 (by decide) ?_
    replace hm := Option.some.inj hm
    subst hm
    exact X_iret dX11_look_33 rfl
  · replace hm := iq c1 hm
    refine X_iload_n 1 dX11_look_13 rfl rfl ?_
    refine X_iconst (v := (0 : Int32)) dX11_look_14 (by decide) ?_
    refine X_bipush (v := (99 : Int32)) dX11_look_15 (by decide) ?_
    obtain ⟨q2, e3, hm⟩ := ob hm
    refine X_cS1 (kX11_isWithin d (by omega) G e3) ml_X11_285 ms_X11_isWithin rfl rfl (Nat.le_refl _) ⟨Nat.le_refl _, Nat.le_refl _⟩ (Nat.le_of_ble_eq_true rfl) dX11_look_17 ?_
    refine X_if_eq (tgt := 32) dX11_look_20 (by decide) (fun c4 => ?_) (fun c4 => ?_)
    · replace hm := ip c4 hm
      refine X_iconst (v := (-1 : Int32)) dX11_look_32 (by decide) ?_
      replace hm := Option.some.inj hm
      subst hm
      exact X_iret dX11_look_33 rfl
    · replace hm := iq c4 hm
      refine X_iload_n 2 dX11_look_23 rfl rfl ?_
      refine X_iconst (v := (0 : Int32)) dX11_look_24 (by decide) ?_
      refine X_iconst (v := (1 : Int32)) dX11_look_25 (by decide) ?_
      obtain ⟨q5, e6, hm⟩ := ob hm
      refine X_cS1 (kX11_isWithin d (by omega) G e6) ml_X11_285 ms_X11_isWithin rfl rfl (Nat.le_refl _) ⟨Nat.le_refl _, Nat.le_refl _⟩ (Nat.le_of_ble_eq_true rfl) dX11_look_26 ?_
      refine X_if_ne (tgt := 34) dX11_look_29 (by decide) (fun c7 => ?_) (fun c7 => ?_)
      · replace hm := iq c7 hm
        refine X_iconst (v := (0 : Int32)) dX11_look_34 (by decide) ?_
        refine X_istore_n (lv' := [(3, .int (0 : Int32)), (0, .ref 1), (1, .int a1), (2, .int a2)]) dX11_look_35 rfl (by decide) rfl ?_
        refine X_iconst (v := (-1 : Int32)) dX11_look_36 (by decide) ?_
        refine X_istore (lv' := [(4, .int (-1 : Int32)), (3, .int (0 : Int32)), (0, .ref 1), (1, .int a1), (2, .int a2)]) dX11_look_37 (by decide) rfl ?_
        refine X_lv [2, 3, 4, 1, 0] rfl (kX11_look_39 _ hd G (fun I_12 L_12 a2_12 a3_12 hm => ?_) xf _ _ _ _ _ _  hm)
        refine X_iload_n 2 dX11_look_68 rfl rfl ?_
        refine X_if_ne (tgt := 75) dX11_look_69 (by decide) (fun c13 => ?_) (fun c13 => ?_)
        · replace hm := iq c13 hm
          refine X_bipush (v := (-2 : Int32)) dX11_look_75 (by decide) ?_
          refine X_istore (lv' := [(4, .int (-2 : Int32)), (0, .ref 1), (2, .int a2_12), (3, .int a3_12)]) dX11_look_77 (by decide) rfl ?_
          refine X_bipush (v := (8 : Int32)) dX11_look_79 (by decide) ?_
          refine X_istore (lv' := [(5, .int (8 : Int32)), (4, .int (-2 : Int32)), (0, .ref 1), (2, .int a2_12), (3, .int a3_12)]) dX11_look_81 (by decide) rfl ?_
          refine X_iconst (v := (0 : Int32)) dX11_look_83 (by decide) ?_
          refine X_istore (lv' := [(6, .int (0 : Int32)), (5, .int (8 : Int32)), (4, .int (-2 : Int32)), (0, .ref 1), (2, .int a2_12), (3, .int a3_12)]) dX11_look_84 (by decide) rfl ?_
          refine X_lv [3, 4, 5, 2, 1, 0] rfl (kX11_look_86 _ hd G xf _ _ _ _ _ _ _  hm)
        · replace hm := ip c13 hm
          refine X_bipush (v := (-2 : Int32)) dX11_look_72 (by decide) ?_
          replace hm := Option.some.inj hm
          subst hm
          exact X_iret dX11_look_74 rfl
      · replace hm := ip c7 hm
        refine X_iconst (v := (-1 : Int32)) dX11_look_32 (by decide) ?_
        replace hm := Option.some.inj hm
        subst hm
        exact X_iret dX11_look_33 rfl
def mX11_seed  (I : Nat → Nat → Int32) (a1 : Int32) : Option (Int32 × (Nat → Nat → Int32)) := (if 0 ≤ a1 then (some ((I 12 8), (xu I 12 8 a1))) else (some ((-1 : Int32), I)))
set_option maxHeartbeats 400000 in
set_option maxRecDepth 100000 in
theorem kX11_seed {E : xE} {B : Nat} {n : Nat} {K : Nat → Nat × Nat} {P : Nat → Nat → Nat} {I : Nat → Nat → Int32} {L : Nat → Nat → Int64}  {a1 : Int32} {q : Int32 × (Nat → Nat → Int32)} (d : Nat) (hd : 0 ≤ d) (G : GW K P)   (hm : mX11_seed I a1 = some q) : MX E B d 0 0 yX11_seed cX11_seed 3 (some .int) [.ref 1, .int a1] (n, K, P, I, L) (some (.int q.1), (n, K, P, q.2, L)) := by
  refine MX_of (lv := [(0, .ref 1), (1, .int a1)]) (by decide +kernel) (Nat.le_of_ble_eq_true rfl) rfl ?_
  unfold mX11_seed at hm
  refine X_iload_n 1 dX11_seed_0 rfl rfl ?_
  refine X_if_ge (tgt := 6) dX11_seed_1 (by decide) (fun c1 => ?_) (fun c1 => ?_)
  · replace hm := ip c1 hm
    refine X_aload_n 0 dX11_seed_6 rfl rfl rfl ?_
    refine X_getPe fl_X11_38 (g_K1 G) rfl (g_P1_6 G) dX11_seed_7 ?_
    refine X_getI fl_X11_239 (g_K12 G) rfl dX11_seed_10 ?_
    refine X_istore_n (lv' := [(2, .int (I 12 8)), (0, .ref 1), (1, .int a1)]) dX11_seed_13 rfl (by decide) rfl ?_
    refine X_aload_n 1 dX11_seed_14 rfl rfl rfl ?_
    refine X_getPe fl_X11_38 (g_K1 G) rfl (g_P1_6 G) dX11_seed_15 ?_
    refine X_iload_n 2 dX11_seed_18 rfl rfl ?_
    refine X_putI fl_X11_239 (g_K12 G) rfl rfl dX11_seed_19 ?_
    refine X_iload_n 0 dX11_seed_22 rfl rfl ?_
    replace hm := Option.some.inj hm
    subst hm
    exact X_iret dX11_seed_23 rfl
  · replace hm := iq c1 hm
    refine X_iconst (v := (-1 : Int32)) dX11_seed_4 (by decide) ?_
    replace hm := Option.some.inj hm
    subst hm
    exact X_iret dX11_seed_5 rfl
def mX11_years_124 (P : Nat → Nat → Nat) (e159 : (Nat → Nat → Int32) → (Nat → Nat → Int64) → Int32 → Int32 → Int32 → Int32 → Int32 → Option (Int32 × (Nat → Nat → Int32) × (Nat → Nat → Int64))) : Nat → (Nat → Nat → Int32) → (Nat → Nat → Int64) → Int32 → Int32 → Int32 → Int32 → Int32 → Int32 → Option (Int32 × (Nat → Nat → Int32) × (Nat → Nat → Int64))
  | 0, _, _, _, _, _, _, _, _ => none
  | f + 1, I, L, a1, a2, a3, a4, a5, a6 => (if a2 ≤ a6 then (e159 I L a1 a2 a3 a4 a5) else (Option.bind (mX2_passDrawn I L (P 12 0) 92) (fun q24 => (mX11_years_124 P e159 f q24.2.1 q24.2.2 a1 a2 a3 (a4 + q24.1) a5 (a6 + 1)))))
set_option maxHeartbeats 400000 in
set_option maxRecDepth 100000 in
theorem kX11_years_124 {E : xE} {B : Nat} {n : Nat} {K : Nat → Nat × Nat} {P : Nat → Nat → Nat}  {e159 : (Nat → Nat → Int32) → (Nat → Nat → Int64) → Int32 → Int32 → Int32 → Int32 → Int32 → Option (Int32 × (Nat → Nat → Int32) × (Nat → Nat → Int64))} {q : Int32 × (Nat → Nat → Int32) × (Nat → Nat → Int64)} (d : Nat) (hd : 6 ≤ d) (G : GW K P)  (he159 : ∀ (I : Nat → Nat → Int32) (L : Nat → Nat → Int64) (a1 : Int32) (a2 : Int32) (a3 : Int32) (a4 : Int32) (a5 : Int32), e159 I L a1 a2 a3 a4 a5 = some q → X E B d 0 0 yX11_years cX11_years 7 (some .int) (some (.int q.1), (n, K, P, q.2.1, q.2.2)) 159 [(0, .ref 1), (1, .int a1), (2, .int a2), (3, .int a3), (4, .int a4), (5, .int a5)] [] 0 0 (n, K, P, I, L)) : ∀ (f : Nat) (I : Nat → Nat → Int32) (L : Nat → Nat → Int64) (a1 : Int32) (a2 : Int32) (a3 : Int32) (a4 : Int32) (a5 : Int32) (a6 : Int32), mX11_years_124 P e159 f I L a1 a2 a3 a4 a5 a6 = some q → X E B d 0 0 yX11_years cX11_years 7 (some .int) (some (.int q.1), (n, K, P, q.2.1, q.2.2)) 124 [(0, .ref 1), (1, .int a1), (2, .int a2), (3, .int a3), (4, .int a4), (5, .int a5), (6, .int a6)] [] 0 0 (n, K, P, I, L) := by
  obtain ⟨d, rfl⟩ : ∃ d0, d = d0 + 1 := ⟨d - 1, by omega⟩
  intro f
  induction f with
  | zero => intro _ _ _ _ _ _ _ _ hm; exact nomatch (show (none : Option (Int32 × (Nat → Nat → Int32) × (Nat → Nat → Int64))) = some q from hm)
  | succ f ih =>
    intro I L a1 a2 a3 a4 a5 a6 hm
    rw [mX11_years_124] at hm
    refine X_iload 6 dX11_years_124 rfl ?_
    refine X_iload_n 2 dX11_years_126 rfl rfl ?_
    refine X_icmp_ge (tgt := 159) dX11_years_127 (by decide) (fun c23 => ?_) (fun c23 => ?_)
    · replace hm := ip c23 hm
      exact X_lv [0, 1, 2, 3, 4, 5] rfl (he159 _ _ _ _ _ _ _ hm)
    · replace hm := iq c23 hm
      refine X_iload 4 dX11_years_130 rfl ?_
      refine X_aload_n 0 dX11_years_132 rfl rfl rfl ?_
      refine X_getPe fl_X11_56 (g_K1 G) rfl (g_P1_9 G) dX11_years_133 ?_
      refine X_aload_n 0 dX11_years_136 rfl rfl rfl ?_
      refine X_getPe fl_X11_38 (g_K1 G) rfl (g_P1_6 G) dX11_years_137 ?_
      refine X_getP fl_X11_116 (g_K12 G) rfl dX11_years_140 ?_
      refine X_aload_n 0 dX11_years_143 rfl rfl rfl ?_
      refine X_getPe fl_X11_49 (g_K1 G) rfl (g_P1_8 G) dX11_years_144 ?_
      obtain ⟨q24, e25, hm⟩ := ob hm
      refine X_cV1 (ci := 1) (kX2_passDrawn d (by omega) G (gl9_st G (g_K12 G)) (g_K92 G) e25) ml_X11_409 mi_X2_passDrawn rfl cf_1 (g_K95 G) rfl rfl (Nat.le_refl _) ⟨Nat.le_refl _, Nat.le_refl _⟩ (Nat.le_of_ble_eq_true rfl) dX11_years_147 ?_
      refine X_iadd dX11_years_150 ?_
      refine X_istore (lv' := [(4, .int (a4 + q24.1)), (0, .ref 1), (1, .int a1), (2, .int a2), (3, .int a3), (5, .int a5), (6, .int a6)]) dX11_years_151 (by decide) rfl ?_
      refine X_iinc (lv' := [(6, .int (a6 + 1)), (4, .int (a4 + q24.1)), (0, .ref 1), (1, .int a1), (2, .int a2), (3, .int a3), (5, .int a5)]) 6 dX11_years_153 rfl rfl (by decide) rfl ?_
      refine X_goto (tgt := 124) dX11_years_156 (by decide) ?_
      exact X_lv [2, 3, 4, 5, 1, 6, 0] rfl (ih _ _ _ _ _ _ _ _ hm)
def mX11_years_101 (P : Nat → Nat → Nat)  : Nat → (Nat → Nat → Int32) → (Nat → Nat → Int64) → Int32 → Int32 → Int32 → Int32 → Int32 → Option (Int32 × (Nat → Nat → Int32) × (Nat → Nat → Int64))
  | 0, _, _, _, _, _, _, _ => none
  | f + 1, I, L, a1, a2, a3, a4, a5 => (if a1 ≤ a5 then (if a3 = 0 then (some (a4, I, L)) else (Option.bind (mX2_gotByAll I) (fun q19 => (some (q19, I, L))))) else (Option.bind (mX6_copyFrom I L 92 24) (fun q21 => (mX11_years_124 P (fun (I_26 : (Nat → Nat → Int32)) (L_26 : (Nat → Nat → Int64)) (a1_26 : Int32) (a2_26 : Int32) (a3_26 : Int32) (a4_26 : Int32) (a5_26 : Int32) => (mX11_years_101 P f I_26 L_26 a1_26 a2_26 a3_26 a4_26 (a5_26 + 1))) xf q21.1 q21.2 a1 a2 a3 a4 a5 (0 : Int32)))))
set_option maxHeartbeats 400000 in
set_option maxRecDepth 100000 in
theorem kX11_years_101 {E : xE} {B : Nat} {n : Nat} {K : Nat → Nat × Nat} {P : Nat → Nat → Nat}   {q : Int32 × (Nat → Nat → Int32) × (Nat → Nat → Int64)} (d : Nat) (hd : 6 ≤ d) (G : GW K P)   : ∀ (f : Nat) (I : Nat → Nat → Int32) (L : Nat → Nat → Int64) (a1 : Int32) (a2 : Int32) (a3 : Int32) (a4 : Int32) (a5 : Int32), mX11_years_101 P f I L a1 a2 a3 a4 a5 = some q → X E B d 0 0 yX11_years cX11_years 7 (some .int) (some (.int q.1), (n, K, P, q.2.1, q.2.2)) 101 [(0, .ref 1), (1, .int a1), (2, .int a2), (3, .int a3), (4, .int a4), (5, .int a5)] [] 0 0 (n, K, P, I, L) := by
  obtain ⟨d, rfl⟩ : ∃ d0, d = d0 + 1 := ⟨d - 1, by omega⟩
  intro f
  induction f with
  | zero => intro _ _ _ _ _ _ _ hm; exact nomatch (show (none : Option (Int32 × (Nat → Nat → Int32) × (Nat → Nat → Int64))) = some q from hm)
  | succ f ih =>
    intro I L a1 a2 a3 a4 a5 hm
    rw [mX11_years_101] at hm
    refine X_iload 5 dX11_years_101 rfl ?_
    refine X_iload_n 1 dX11_years_103 rfl rfl ?_
    refine X_icmp_ge (tgt := 165) dX11_years_104 (by decide) (fun c17 => ?_) (fun c17 => ?_)
    · replace hm := ip c17 hm
      refine X_iload_n 3 dX11_years_165 rfl rfl ?_
      refine X_if_ne (tgt := 174) dX11_years_166 (by decide) (fun c18 => ?_) (fun c18 => ?_)
      · replace hm := iq c18 hm
        refine X_aload_n 0 dX11_years_174 rfl rfl rfl ?_
        refine X_getPe fl_X11_56 (g_K1 G) rfl (g_P1_9 G) dX11_years_175 ?_
        obtain ⟨q19, e20, hm⟩ := ob hm
        refine X_cV1 (ci := 1) (kX2_gotByAll d (by omega) G e20) ml_X11_413 mi_X2_gotByAll rfl cf_1 (g_K95 G) rfl rfl (Nat.le_refl _) ⟨Nat.le_refl _, Nat.le_refl _⟩ (Nat.le_of_ble_eq_true rfl) dX11_years_178 ?_
        replace hm := Option.some.inj hm
        subst hm
        exact X_iret dX11_years_181 rfl
      · replace hm := ip c18 hm
        refine X_iload 4 dX11_years_169 rfl ?_
        refine X_goto (tgt := 181) dX11_years_171 (by decide) ?_
        replace hm := Option.some.inj hm
        subst hm
        exact X_iret dX11_years_181 rfl
    · replace hm := iq c17 hm
      refine X_aload_n 0 dX11_years_107 rfl rfl rfl ?_
      refine X_getPe fl_X11_49 (g_K1 G) rfl (g_P1_8 G) dX11_years_108 ?_
      refine X_aload_n 0 dX11_years_111 rfl rfl rfl ?_
      refine X_getPe fl_X11_38 (g_K1 G) rfl (g_P1_6 G) dX11_years_112 ?_
      refine X_getPe fl_X11_142 (g_K12 G) rfl (g_P12_1 G) dX11_years_115 ?_
      obtain ⟨q21, e22, hm⟩ := ob hm
      refine X_cV0 (ci := 5) (kX6_copyFrom d (by omega) G (g_K92 G) (g_K24 G) e22) ml_X11_293 mi_X6_copyFrom rfl cf_5 (g_K92 G) rfl rfl (Nat.le_refl _) ⟨Nat.le_refl _, Nat.le_refl _⟩ (Nat.le_of_ble_eq_true rfl) dX11_years_118 ?_
      refine X_iconst (v := (0 : Int32)) dX11_years_121 (by decide) ?_
      refine X_istore (lv' := [(6, .int (0 : Int32)), (0, .ref 1), (1, .int a1), (2, .int a2), (3, .int a3), (4, .int a4), (5, .int a5)]) dX11_years_122 (by decide) rfl ?_
      refine X_lv [1, 2, 3, 4, 5, 6, 0] rfl (kX11_years_124 _ hd G (fun I_26 L_26 a1_26 a2_26 a3_26 a4_26 a5_26 hm => ?_) xf _ _ _ _ _ _ _ _  hm)
      refine X_iinc (lv' := [(5, .int (a5_26 + 1)), (0, .ref 1), (1, .int a1_26), (2, .int a2_26), (3, .int a3_26), (4, .int a4_26)]) 5 dX11_years_159 rfl rfl (by decide) rfl ?_
      refine X_goto (tgt := 101) dX11_years_162 (by decide) ?_
      exact X_lv [1, 2, 3, 4, 5, 0] rfl (ih _ _ _ _ _ _ _ hm)
def mX11_years (P : Nat → Nat → Nat) (I : Nat → Nat → Int32) (L : Nat → Nat → Int64) (a1 : Int32) (a2 : Int32) (a3 : Int32) : Option (Int32 × (Nat → Nat → Int32) × (Nat → Nat → Int64)) := (if (I (P 12 0) 0) = 0 then (some ((-1 : Int32), I, L)) else (Option.bind (mX11_isWithin a3 (0 : Int32) (1 : Int32)) (fun q2 => (if q2 = 0 then (some ((-1 : Int32), I, L)) else (Option.bind (mX11_isWithin a1 (1 : Int32) (10 : Int32)) (fun q5 => (if q5 = 0 then (some ((-1 : Int32), I, L)) else (Option.bind (mX11_isWithin a2 (1 : Int32) (100 : Int32)) (fun q8 => (if q8 = 0 then (some ((-1 : Int32), I, L)) else (if (I (P 12 0) 7) = 0 then (some ((0 : Int32), I, L)) else (if (I (P 12 0) 6) = 0 then (some ((0 : Int32), I, L)) else (Option.bind (mX2_forgetRents I) (fun q13 => (Option.bind (mX2_beginDraws L (q13 12 8)) (fun q15 => (mX11_years_101 P xf q13 q15 a1 a2 a3 (0 : Int32) (0 : Int32))))))))))))))))))
set_option maxHeartbeats 400000 in
set_option maxRecDepth 100000 in
theorem kX11_years {E : xE} {B : Nat} {n : Nat} {K : Nat → Nat × Nat} {P : Nat → Nat → Nat} {I : Nat → Nat → Int32} {L : Nat → Nat → Int64}  {a1 : Int32} {a2 : Int32} {a3 : Int32} {q : Int32 × (Nat → Nat → Int32) × (Nat → Nat → Int64)} (d : Nat) (hd : 6 ≤ d) (G : GW K P)   (hm : mX11_years P I L a1 a2 a3 = some q) : MX E B d 0 0 yX11_years cX11_years 7 (some .int) [.ref 1, .int a1, .int a2, .int a3] (n, K, P, I, L) (some (.int q.1), (n, K, P, q.2.1, q.2.2)) := by
  refine MX_of (lv := [(0, .ref 1), (1, .int a1), (2, .int a2), (3, .int a3)]) (by decide +kernel) (Nat.le_of_ble_eq_true rfl) rfl ?_
  obtain ⟨d, rfl⟩ : ∃ d0, d = d0 + 1 := ⟨d - 1, by omega⟩
  unfold mX11_years at hm
  refine X_aload_n 0 dX11_years_0 rfl rfl rfl ?_
  refine X_getPe fl_X11_38 (g_K1 G) rfl (g_P1_6 G) dX11_years_1 ?_
  refine X_getP fl_X11_116 (g_K12 G) rfl dX11_years_4 ?_
  refine X_getI fl_X11_219 (gl9_st G (g_K12 G)) rfl dX11_years_7 ?_
  refine X_if_eq (tgt := 22) dX11_years_10 (by decide) (fun c1 => ?_) (fun c1 => ?_)
  · replace hm := ip c1 hm
    refine X_iconst (v := (-1 : Int32)) dX11_years_22 (by decide) ?_
    replace hm := Option.some.inj hm
    subst hm
    exact X_iret dX11_years_23 rfl
  · replace hm := iq c1 hm
    refine X_iload_n 3 dX11_years_13 rfl rfl ?_
    refine X_iconst (v := (0 : Int32)) dX11_years_14 (by decide) ?_
    refine X_iconst (v := (1 : Int32)) dX11_years_15 (by decide) ?_
    obtain ⟨q2, e3, hm⟩ := ob hm
    refine X_cS1 (kX11_isWithin d (by omega) G e3) ml_X11_285 ms_X11_isWithin rfl rfl (Nat.le_refl _) ⟨Nat.le_refl _, Nat.le_refl _⟩ (Nat.le_of_ble_eq_true rfl) dX11_years_16 ?_
    refine X_if_ne (tgt := 24) dX11_years_19 (by decide) (fun c4 => ?_) (fun c4 => ?_)
    · replace hm := iq c4 hm
      refine X_iload_n 1 dX11_years_24 rfl rfl ?_
      refine X_iconst (v := (1 : Int32)) dX11_years_25 (by decide) ?_
      refine X_bipush (v := (10 : Int32)) dX11_years_26 (by decide) ?_
      obtain ⟨q5, e6, hm⟩ := ob hm
      refine X_cS1 (kX11_isWithin d (by omega) G e6) ml_X11_285 ms_X11_isWithin rfl rfl (Nat.le_refl _) ⟨Nat.le_refl _, Nat.le_refl _⟩ (Nat.le_of_ble_eq_true rfl) dX11_years_28 ?_
      refine X_if_eq (tgt := 44) dX11_years_31 (by decide) (fun c7 => ?_) (fun c7 => ?_)
      · replace hm := ip c7 hm
        refine X_iconst (v := (-1 : Int32)) dX11_years_44 (by decide) ?_
        replace hm := Option.some.inj hm
        subst hm
        exact X_iret dX11_years_45 rfl
      · replace hm := iq c7 hm
        refine X_iload_n 2 dX11_years_34 rfl rfl ?_
        refine X_iconst (v := (1 : Int32)) dX11_years_35 (by decide) ?_
        refine X_bipush (v := (100 : Int32)) dX11_years_36 (by decide) ?_
        obtain ⟨q8, e9, hm⟩ := ob hm
        refine X_cS1 (kX11_isWithin d (by omega) G e9) ml_X11_285 ms_X11_isWithin rfl rfl (Nat.le_refl _) ⟨Nat.le_refl _, Nat.le_refl _⟩ (Nat.le_of_ble_eq_true rfl) dX11_years_38 ?_
        refine X_if_ne (tgt := 46) dX11_years_41 (by decide) (fun c10 => ?_) (fun c10 => ?_)
        · replace hm := iq c10 hm
          refine X_aload_n 0 dX11_years_46 rfl rfl rfl ?_
          refine X_getPe fl_X11_38 (g_K1 G) rfl (g_P1_6 G) dX11_years_47 ?_
          refine X_getP fl_X11_116 (g_K12 G) rfl dX11_years_50 ?_
          refine X_getI fl_X11_139 (gl9_st G (g_K12 G)) rfl dX11_years_53 ?_
          refine X_if_eq (tgt := 72) dX11_years_56 (by decide) (fun c11 => ?_) (fun c11 => ?_)
          · replace hm := ip c11 hm
            refine X_iconst (v := (0 : Int32)) dX11_years_72 (by decide) ?_
            replace hm := Option.some.inj hm
            subst hm
            exact X_iret dX11_years_73 rfl
          · replace hm := iq c11 hm
            refine X_aload_n 0 dX11_years_59 rfl rfl rfl ?_
            refine X_getPe fl_X11_38 (g_K1 G) rfl (g_P1_6 G) dX11_years_60 ?_
            refine X_getP fl_X11_116 (g_K12 G) rfl dX11_years_63 ?_
            refine X_getI fl_X11_119 (gl9_st G (g_K12 G)) rfl dX11_years_66 ?_
            refine X_if_ne (tgt := 74) dX11_years_69 (by decide) (fun c12 => ?_) (fun c12 => ?_)
            · replace hm := iq c12 hm
              refine X_aload_n 0 dX11_years_74 rfl rfl rfl ?_
              refine X_getPe fl_X11_56 (g_K1 G) rfl (g_P1_9 G) dX11_years_75 ?_
              obtain ⟨q13, e14, hm⟩ := ob hm
              refine X_cV0 (ci := 1) (kX2_forgetRents d (by omega) G e14) ml_X11_282 mi_X2_forgetRents rfl cf_1 (g_K95 G) rfl rfl (Nat.le_refl _) ⟨Nat.le_refl _, Nat.le_refl _⟩ (Nat.le_of_ble_eq_true rfl) dX11_years_78 ?_
              refine X_aload_n 0 dX11_years_81 rfl rfl rfl ?_
              refine X_getPe fl_X11_56 (g_K1 G) rfl (g_P1_9 G) dX11_years_82 ?_
              refine X_aload_n 0 dX11_years_85 rfl rfl rfl ?_
              refine X_getPe fl_X11_38 (g_K1 G) rfl (g_P1_6 G) dX11_years_86 ?_
              refine X_getI fl_X11_239 (g_K12 G) rfl dX11_years_89 ?_
              obtain ⟨q15, e16, hm⟩ := ob hm
              refine X_cV0 (ci := 1) (kX2_beginDraws d (by omega) G e16) ml_X11_406 mi_X2_beginDraws rfl cf_1 (g_K95 G) rfl rfl (Nat.le_refl _) ⟨Nat.le_refl _, Nat.le_refl _⟩ (Nat.le_of_ble_eq_true rfl) dX11_years_92 ?_
              refine X_iconst (v := (0 : Int32)) dX11_years_95 (by decide) ?_
              refine X_istore (lv' := [(4, .int (0 : Int32)), (0, .ref 1), (1, .int a1), (2, .int a2), (3, .int a3)]) dX11_years_96 (by decide) rfl ?_
              refine X_iconst (v := (0 : Int32)) dX11_years_98 (by decide) ?_
              refine X_istore (lv' := [(5, .int (0 : Int32)), (4, .int (0 : Int32)), (0, .ref 1), (1, .int a1), (2, .int a2), (3, .int a3)]) dX11_years_99 (by decide) rfl ?_
              refine X_lv [2, 3, 4, 5, 1, 0] rfl (kX11_years_101 _ hd G xf _ _ _ _ _ _ _  hm)
            · replace hm := ip c12 hm
              refine X_iconst (v := (0 : Int32)) dX11_years_72 (by decide) ?_
              replace hm := Option.some.inj hm
              subst hm
              exact X_iret dX11_years_73 rfl
        · replace hm := ip c10 hm
          refine X_iconst (v := (-1 : Int32)) dX11_years_44 (by decide) ?_
          replace hm := Option.some.inj hm
          subst hm
          exact X_iret dX11_years_45 rfl
    · replace hm := ip c4 hm
      refine X_iconst (v := (-1 : Int32)) dX11_years_22 (by decide) ?_
      replace hm := Option.some.inj hm
      subst hm
      exact X_iret dX11_years_23 rfl
def mX11_back  (P : Nat → Nat → Nat) (I : Nat → Nat → Int32) (L : Nat → Nat → Int64) (a1 : Int32) : Option (Int32 × (Nat → Nat → Nat) × (Nat → Nat → Int32) × (Nat → Nat → Int64)) := (Option.bind (mX11_isWithin a1 (0 : Int32) (3 : Int32)) (fun q1 => (if q1 = 0 then (some ((-1 : Int32), P, I, L)) else (if inb a1 4 = true then (if (P 91 (ix a1)) ≠ 0 then (if inb a1 4 = true then (if (P 91 (ix a1)) ≠ 0 then (Option.bind (mX10_copyFrom P I L 12 (P 91 (ix a1))) (fun q8 => (some ((q8.2.1 24 2), q8.1, q8.2.1, q8.2.2)))) else none) else none) else (some ((-1 : Int32), P, I, L))) else none))))
set_option maxHeartbeats 400000 in
set_option maxRecDepth 100000 in
theorem kX11_back {E : xE} {B : Nat} {n : Nat} {K : Nat → Nat × Nat} {P : Nat → Nat → Nat} {I : Nat → Nat → Int32} {L : Nat → Nat → Int64}  {a1 : Int32} {q : Int32 × (Nat → Nat → Nat) × (Nat → Nat → Int32) × (Nat → Nat → Int64)} (d : Nat) (hd : 3 ≤ d) (G : GW K P)   (hm : mX11_back P I L a1 = some q) : MX E B d 0 0 yX11_back cX11_back 2 (some .int) [.ref 1, .int a1] (n, K, P, I, L) (some (.int q.1), (n, K, q.2.1, q.2.2.1, q.2.2.2)) := by
  refine MX_of (lv := [(0, .ref 1), (1, .int a1)]) (by decide +kernel) (Nat.le_of_ble_eq_true rfl) rfl ?_
  obtain ⟨d, rfl⟩ : ∃ d0, d = d0 + 1 := ⟨d - 1, by omega⟩
  unfold mX11_back at hm
  refine X_iload_n 1 dX11_back_0 rfl rfl ?_
  refine X_iconst (v := (0 : Int32)) dX11_back_1 (by decide) ?_
  refine X_iconst (v := (3 : Int32)) dX11_back_2 (by decide) ?_
  obtain ⟨q1, e2, hm⟩ := ob hm
  refine X_cS1 (kX11_isWithin d (by omega) G e2) ml_X11_285 ms_X11_isWithin rfl rfl (Nat.le_refl _) ⟨Nat.le_refl _, Nat.le_refl _⟩ (Nat.le_of_ble_eq_true rfl) dX11_back_3 ?_
  refine X_if_eq (tgt := 18) dX11_back_6 (by decide) (fun c3 => ?_) (fun c3 => ?_)
  · replace hm := ip c3 hm
    refine X_iconst (v := (-1 : Int32)) dX11_back_18 (by decide) ?_
    replace hm := Option.some.inj hm
    subst hm
    exact X_iret dX11_back_19 rfl
  · replace hm := iq c3 hm
    refine X_aload_n 0 dX11_back_9 rfl rfl rfl ?_
    refine X_getPe fl_X11_42 (g_K1 G) rfl (g_P1_7 G) dX11_back_10 ?_
    refine X_iload_n 1 dX11_back_13 rfl rfl ?_
    obtain ⟨g4, hm⟩ := og hm
    refine X_aaldJ (g_K91 G) (by decide) rfl g4 rfl dX11_back_14 ?_
    refine X_ifnonnull (tgt := 20) dX11_back_15 (by decide) (fun c5 => ?_) (fun c5 => ?_)
    · replace hm := ip c5 hm
      refine X_aload_n 0 dX11_back_20 rfl rfl rfl ?_
      refine X_getPe fl_X11_38 (g_K1 G) rfl (g_P1_6 G) dX11_back_21 ?_
      refine X_aload_n 0 dX11_back_24 rfl rfl rfl ?_
      refine X_getPe fl_X11_42 (g_K1 G) rfl (g_P1_7 G) dX11_back_25 ?_
      refine X_iload_n 1 dX11_back_28 rfl rfl ?_
      obtain ⟨g6, hm⟩ := og hm
      refine X_aaldJ (g_K91 G) (by decide) rfl g6 rfl dX11_back_29 ?_
      obtain ⟨g7, hm⟩ := og hm
      obtain ⟨q8, e9, hm⟩ := ob hm
      refine X_cV0 (ci := 9) (kX10_copyFrom d (by omega) G (g_K12 G) (Or.resolve_left (g_img G (inb_lt g6)) g7) e9) ml_X11_416 mi_X10_copyFrom rfl cf_9 (g_K12 G) rfl rfl (Nat.le_refl _) ⟨Nat.le_refl _, Nat.le_refl _⟩ (Nat.le_of_ble_eq_true rfl) dX11_back_30 ?_
      have G10 := gw_X10_copyFrom G (g_K12 G) (Or.resolve_left (g_img G (inb_lt g6)) g7) e9
      refine X_aload_n 0 dX11_back_33 rfl rfl rfl ?_
      refine X_getPe fl_X11_38 (g_K1 G10) rfl (g_P1_6 G10) dX11_back_34 ?_
      refine X_getPe fl_X11_142 (g_K12 G10) rfl (g_P12_1 G10) dX11_back_37 ?_
      refine X_getI fl_X11_165 (g_K24 G10) rfl dX11_back_40 ?_
      replace hm := Option.some.inj hm
      subst hm
      exact X_iret dX11_back_43 rfl
    · replace hm := iq c5 hm
      refine X_iconst (v := (-1 : Int32)) dX11_back_18 (by decide) ?_
      replace hm := Option.some.inj hm
      subst hm
      exact X_iret dX11_back_19 rfl
def mX12_in  (a0 : Int64) (a2 : Int64) (a4 : Int64) : Option (Int32) := (if (lg_cmp a0 a2) < 0 then (some (0 : Int32)) else (if 0 < (lg_cmp a0 a4) then (some (0 : Int32)) else (some (1 : Int32))))
set_option maxHeartbeats 400000 in
set_option maxRecDepth 100000 in
theorem kX12_in {E : xE} {B : Nat} {n : Nat} {K : Nat → Nat × Nat} {P : Nat → Nat → Nat} {I : Nat → Nat → Int32} {L : Nat → Nat → Int64}  {a0 : Int64} {a2 : Int64} {a4 : Int64} {q : Int32} (d : Nat) (hd : 0 ≤ d) (G : GW K P)   (hm : mX12_in a0 a2 a4 = some q) : MX E B d 0 0 yX12_in cX12_in 6 (some .boolean) [.long a0, .long a2, .long a4] (n, K, P, I, L) (some (.int q), (n, K, P, I, L)) := by
  refine MX_of (lv := [(0, .long a0), (2, .long a2), (4, .long a4)]) (by decide +kernel) (Nat.le_of_ble_eq_true rfl) rfl ?_
  unfold mX12_in at hm
  refine X_lload_n 0 dX12_in_0 rfl rfl ?_
  refine X_lload_n 1 dX12_in_1 rfl rfl ?_
  refine X_lcmp dX12_in_2 ?_
  refine X_if_lt (tgt := 17) dX12_in_3 (by decide) (fun c1 => ?_) (fun c1 => ?_)
  · replace hm := ip c1 hm
    refine X_iconst (v := (0 : Int32)) dX12_in_17 (by decide) ?_
    replace hm := Option.some.inj hm
    subst hm
    exact X_zret (v := (0 : Int32)) dX12_in_18 rfl (x_nz (Or.inl rfl))
  · replace hm := iq c1 hm
    refine X_lload_n 0 dX12_in_6 rfl rfl ?_
    refine X_lload 2 dX12_in_7 rfl ?_
    refine X_lcmp dX12_in_9 ?_
    refine X_if_gt (tgt := 17) dX12_in_10 (by decide) (fun c2 => ?_) (fun c2 => ?_)
    · replace hm := ip c2 hm
      refine X_iconst (v := (0 : Int32)) dX12_in_17 (by decide) ?_
      replace hm := Option.some.inj hm
      subst hm
      exact X_zret (v := (0 : Int32)) dX12_in_18 rfl (x_nz (Or.inl rfl))
    · replace hm := iq c2 hm
      refine X_iconst (v := (1 : Int32)) dX12_in_13 (by decide) ?_
      refine X_goto (tgt := 18) dX12_in_14 (by decide) ?_
      replace hm := Option.some.inj hm
      subst hm
      exact X_zret (v := (1 : Int32)) dX12_in_18 rfl (x_nz (Or.inr rfl))
def mX12_bits_4   : Nat → Int32 → Int32 → Int32 → Option (Int32)
  | 0, _, _, _ => none
  | f + 1, a0, a1, a2 => (if (16 : Int32) ≤ a2 then (some a1) else (mX12_bits_4 f a0 (a1 + ((xshr a0 a2) &&& (1 : Int32))) (a2 + 1)))
set_option maxHeartbeats 400000 in
set_option maxRecDepth 100000 in
theorem kX12_bits_4 {E : xE} {B : Nat} {n : Nat} {K : Nat → Nat × Nat} {P : Nat → Nat → Nat} {I : Nat → Nat → Int32} {L : Nat → Nat → Int64}   {q : Int32} (d : Nat) (hd : 0 ≤ d) (G : GW K P)   : ∀ (f : Nat) (a0 : Int32) (a1 : Int32) (a2 : Int32), mX12_bits_4 f a0 a1 a2 = some q → X E B d 0 0 yX12_bits cX12_bits 3 (some .int) (some (.int q), (n, K, P, I, L)) 4 [(0, .int a0), (1, .int a1), (2, .int a2)] [] 0 0 (n, K, P, I, L) := by
  intro f
  induction f with
  | zero => intro _ _ _ hm; exact nomatch (show (none : Option (Int32)) = some q from hm)
  | succ f ih =>
    intro a0 a1 a2 hm
    rw [mX12_bits_4] at hm
    refine X_iload_n 2 dX12_bits_4 rfl rfl ?_
    refine X_bipush (v := (16 : Int32)) dX12_bits_5 (by decide) ?_
    refine X_icmp_ge (tgt := 24) dX12_bits_7 (by decide) (fun c1 => ?_) (fun c1 => ?_)
    · replace hm := ip c1 hm
      refine X_iload_n 1 dX12_bits_24 rfl rfl ?_
      replace hm := Option.some.inj hm
      subst hm
      exact X_iret dX12_bits_25 rfl
    · replace hm := iq c1 hm
      refine X_iload_n 1 dX12_bits_10 rfl rfl ?_
      refine X_iload_n 0 dX12_bits_11 rfl rfl ?_
      refine X_iload_n 2 dX12_bits_12 rfl rfl ?_
      refine X_ishr dX12_bits_13 ?_
      refine X_iconst (v := (1 : Int32)) dX12_bits_14 (by decide) ?_
      refine X_iand dX12_bits_15 ?_
      refine X_iadd dX12_bits_16 ?_
      refine X_istore_n (lv' := [(1, .int (a1 + ((xshr a0 a2) &&& (1 : Int32)))), (0, .int a0), (2, .int a2)]) dX12_bits_17 rfl (by decide) rfl ?_
      refine X_iinc (lv' := [(2, .int (a2 + 1)), (1, .int (a1 + ((xshr a0 a2) &&& (1 : Int32)))), (0, .int a0)]) 2 dX12_bits_18 rfl rfl (by decide) rfl ?_
      refine X_goto (tgt := 4) dX12_bits_21 (by decide) ?_
      exact X_lv [2, 1, 0] rfl (ih _ _ _ hm)
def mX12_bits  (a0 : Int32) : Option (Int32) := (mX12_bits_4 xf a0 (0 : Int32) (0 : Int32))
set_option maxHeartbeats 400000 in
set_option maxRecDepth 100000 in
theorem kX12_bits {E : xE} {B : Nat} {n : Nat} {K : Nat → Nat × Nat} {P : Nat → Nat → Nat} {I : Nat → Nat → Int32} {L : Nat → Nat → Int64}  {a0 : Int32} {q : Int32} (d : Nat) (hd : 0 ≤ d) (G : GW K P)   (hm : mX12_bits a0 = some q) : MX E B d 0 0 yX12_bits cX12_bits 3 (some .int) [.int a0] (n, K, P, I, L) (some (.int q), (n, K, P, I, L)) := by
  refine MX_of (lv := [(0, .int a0)]) (by decide +kernel) (Nat.le_of_ble_eq_true rfl) rfl ?_
  unfold mX12_bits at hm
  refine X_iconst (v := (0 : Int32)) dX12_bits_0 (by decide) ?_
  refine X_istore_n (lv' := [(1, .int (0 : Int32)), (0, .int a0)]) dX12_bits_1 rfl (by decide) rfl ?_
  refine X_iconst (v := (0 : Int32)) dX12_bits_2 (by decide) ?_
  refine X_istore_n (lv' := [(2, .int (0 : Int32)), (1, .int (0 : Int32)), (0, .int a0)]) dX12_bits_3 rfl (by decide) rfl ?_
  refine X_lv [2, 1, 0] rfl (kX12_bits_4 _ hd G xf _ _ _  hm)
def mX12_has  (a0 : Int32) (a1 : Int32) : Option (Int32) := (if ((xshr a0 a1) &&& (1 : Int32)) = (1 : Int32) then (some (1 : Int32)) else (some (0 : Int32)))
set_option maxHeartbeats 400000 in
set_option maxRecDepth 100000 in
theorem kX12_has {E : xE} {B : Nat} {n : Nat} {K : Nat → Nat × Nat} {P : Nat → Nat → Nat} {I : Nat → Nat → Int32} {L : Nat → Nat → Int64}  {a0 : Int32} {a1 : Int32} {q : Int32} (d : Nat) (hd : 0 ≤ d) (G : GW K P)   (hm : mX12_has a0 a1 = some q) : MX E B d 0 0 yX12_has cX12_has 2 (some .boolean) [.int a0, .int a1] (n, K, P, I, L) (some (.int q), (n, K, P, I, L)) := by
  refine MX_of (lv := [(0, .int a0), (1, .int a1)]) (by decide +kernel) (Nat.le_of_ble_eq_true rfl) rfl ?_
  unfold mX12_has at hm
  refine X_iload_n 0 dX12_has_0 rfl rfl ?_
  refine X_iload_n 1 dX12_has_1 rfl rfl ?_
  refine X_ishr dX12_has_2 ?_
  refine X_iconst (v := (1 : Int32)) dX12_has_3 (by decide) ?_
  refine X_iand dX12_has_4 ?_
  refine X_iconst (v := (1 : Int32)) dX12_has_5 (by decide) ?_
  refine X_icmp_ne (tgt := 13) dX12_has_6 (by decide) (fun c1 => ?_) (fun c1 => ?_)
  · replace hm := iq c1 hm
    refine X_iconst (v := (0 : Int32)) dX12_has_13 (by decide) ?_
    replace hm := Option.some.inj hm
    subst hm
    exact X_zret (v := (0 : Int32)) dX12_has_14 rfl (x_nz (Or.inl rfl))
  · replace hm := ip c1 hm
    refine X_iconst (v := (1 : Int32)) dX12_has_9 (by decide) ?_
    refine X_goto (tgt := 14) dX12_has_10 (by decide) ?_
    replace hm := Option.some.inj hm
    subst hm
    exact X_zret (v := (1 : Int32)) dX12_has_14 rfl (x_nz (Or.inr rfl))
def mX12_isStreet (I : Nat → Nat → Int32)  : Option (Int32) := (if (I 124 0) ≤ 0 then (some (0 : Int32)) else (some (1 : Int32)))
set_option maxHeartbeats 400000 in
set_option maxRecDepth 100000 in
theorem kX12_isStreet {E : xE} {B : Nat} {n : Nat} {K : Nat → Nat × Nat} {P : Nat → Nat → Nat} {I : Nat → Nat → Int32} {L : Nat → Nat → Int64}   {q : Int32} (d : Nat) (hd : 0 ≤ d) (G : GW K P)   (hm : mX12_isStreet I = some q) : MX E B d 0 0 yX12_isStreet cX12_isStreet 1 (some .boolean) [.ref 123] (n, K, P, I, L) (some (.int q), (n, K, P, I, L)) := by
  refine MX_of (lv := [(0, .ref 123)]) (by decide +kernel) (Nat.le_of_ble_eq_true rfl) rfl ?_
  unfold mX12_isStreet at hm
  refine X_aload_n 0 dX12_isStreet_0 rfl rfl rfl ?_
  refine X_getPe fl_X12_9 (g_K123 G) rfl (g_P123_1 G) dX12_isStreet_1 ?_
  refine X_iconst (v := (0 : Int32)) dX12_isStreet_4 (by decide) ?_
  refine X_ialdJ (j := 0) (g_K124 G) rfl (by decide) dX12_isStreet_5 ?_
  refine X_if_le (tgt := 13) dX12_isStreet_6 (by decide) (fun c1 => ?_) (fun c1 => ?_)
  · replace hm := ip c1 hm
    refine X_iconst (v := (0 : Int32)) dX12_isStreet_13 (by decide) ?_
    replace hm := Option.some.inj hm
    subst hm
    exact X_zret (v := (0 : Int32)) dX12_isStreet_14 rfl (x_nz (Or.inl rfl))
  · replace hm := iq c1 hm
    refine X_iconst (v := (1 : Int32)) dX12_isStreet_9 (by decide) ?_
    refine X_goto (tgt := 14) dX12_isStreet_10 (by decide) ?_
    replace hm := Option.some.inj hm
    subst hm
    exact X_zret (v := (1 : Int32)) dX12_isStreet_14 rfl (x_nz (Or.inr rfl))
def mX12_isThing (I : Nat → Nat → Int32) (a1 : Int32) : Option (Int32) := (Option.bind (mX12_in a1.toInt64 (0 : Int64) ((I 124 3) - (1 : Int32)).toInt64) (fun q1 => (if q1 = 0 ∨ q1 = 1 then (some q1) else none)))
set_option maxHeartbeats 400000 in
set_option maxRecDepth 100000 in
theorem kX12_isThing {E : xE} {B : Nat} {n : Nat} {K : Nat → Nat × Nat} {P : Nat → Nat → Nat} {I : Nat → Nat → Int32} {L : Nat → Nat → Int64}  {a1 : Int32} {q : Int32} (d : Nat) (hd : 1 ≤ d) (G : GW K P)   (hm : mX12_isThing I a1 = some q) : MX E B d 0 0 yX12_isThing cX12_isThing 2 (some .boolean) [.ref 123, .int a1] (n, K, P, I, L) (some (.int q), (n, K, P, I, L)) := by
  refine MX_of (lv := [(0, .ref 123), (1, .int a1)]) (by decide +kernel) (Nat.le_of_ble_eq_true rfl) rfl ?_
  obtain ⟨d, rfl⟩ : ∃ d0, d = d0 + 1 := ⟨d - 1, by omega⟩
  unfold mX12_isThing at hm
  refine X_iload_n 1 dX12_isThing_0 rfl rfl ?_
  refine X_i2l dX12_isThing_1 ?_
  refine X_lconst (v := (0 : Int64)) dX12_isThing_2 (by decide) ?_
  refine X_aload_n 0 dX12_isThing_3 rfl rfl rfl ?_
  refine X_getPe fl_X12_9 (g_K123 G) rfl (g_P123_1 G) dX12_isThing_4 ?_
  refine X_iconst (v := (3 : Int32)) dX12_isThing_7 (by decide) ?_
  refine X_ialdJ (j := 3) (g_K124 G) rfl (by decide) dX12_isThing_8 ?_
  refine X_iconst (v := (1 : Int32)) dX12_isThing_9 (by decide) ?_
  refine X_isub dX12_isThing_10 ?_
  refine X_i2l dX12_isThing_11 ?_
  obtain ⟨q1, e2, hm⟩ := ob hm
  refine X_cS1 (kX12_in d (by omega) G e2) ml_X12_164 ms_X12_in rfl rfl (Nat.le_refl _) ⟨Nat.le_refl _, Nat.le_refl _⟩ (Nat.le_of_ble_eq_true rfl) dX12_isThing_12 ?_
  obtain ⟨g3, hm⟩ := og hm
  replace hm := Option.some.inj hm
  subst hm
  exact X_zret dX12_isThing_15 rfl (x_nz g3)
def mX12_isCell (I : Nat → Nat → Int32) (a1 : Int32) : Option (Int32) := (Option.bind (mX12_in a1.toInt64 (0 : Int64) ((I 124 4) - (1 : Int32)).toInt64) (fun q1 => (if q1 = 0 ∨ q1 = 1 then (some q1) else none)))
set_option maxHeartbeats 400000 in
set_option maxRecDepth 100000 in
theorem kX12_isCell {E : xE} {B : Nat} {n : Nat} {K : Nat → Nat × Nat} {P : Nat → Nat → Nat} {I : Nat → Nat → Int32} {L : Nat → Nat → Int64}  {a1 : Int32} {q : Int32} (d : Nat) (hd : 1 ≤ d) (G : GW K P)   (hm : mX12_isCell I a1 = some q) : MX E B d 0 0 yX12_isCell cX12_isCell 2 (some .boolean) [.ref 123, .int a1] (n, K, P, I, L) (some (.int q), (n, K, P, I, L)) := by
  refine MX_of (lv := [(0, .ref 123), (1, .int a1)]) (by decide +kernel) (Nat.le_of_ble_eq_true rfl) rfl ?_
  obtain ⟨d, rfl⟩ : ∃ d0, d = d0 + 1 := ⟨d - 1, by omega⟩
  unfold mX12_isCell at hm
  refine X_iload_n 1 dX12_isCell_0 rfl rfl ?_
  refine X_i2l dX12_isCell_1 ?_
  refine X_lconst (v := (0 : Int64)) dX12_isCell_2 (by decide) ?_
  refine X_aload_n 0 dX12_isCell_3 rfl rfl rfl ?_
  refine X_getPe fl_X12_9 (g_K123 G) rfl (g_P123_1 G) dX12_isCell_4 ?_
  refine X_iconst (v := (4 : Int32)) dX12_isCell_7 (by decide) ?_
  refine X_ialdJ (j := 4) (g_K124 G) rfl (by decide) dX12_isCell_8 ?_
  refine X_iconst (v := (1 : Int32)) dX12_isCell_9 (by decide) ?_
  refine X_isub dX12_isCell_10 ?_
  refine X_i2l dX12_isCell_11 ?_
  obtain ⟨q1, e2, hm⟩ := ob hm
  refine X_cS1 (kX12_in d (by omega) G e2) ml_X12_164 ms_X12_in rfl rfl (Nat.le_refl _) ⟨Nat.le_refl _, Nat.le_refl _⟩ (Nat.le_of_ble_eq_true rfl) dX12_isCell_12 ?_
  obtain ⟨g3, hm⟩ := og hm
  replace hm := Option.some.inj hm
  subst hm
  exact X_zret dX12_isCell_15 rfl (x_nz g3)
def mX12_isPainter (I : Nat → Nat → Int32) (a1 : Int32) : Option (Int32) := (Option.bind (mX12_in a1.toInt64 (0 : Int64) ((I 124 5) - (1 : Int32)).toInt64) (fun q1 => (if q1 = 0 ∨ q1 = 1 then (some q1) else none)))
set_option maxHeartbeats 400000 in
set_option maxRecDepth 100000 in
theorem kX12_isPainter {E : xE} {B : Nat} {n : Nat} {K : Nat → Nat × Nat} {P : Nat → Nat → Nat} {I : Nat → Nat → Int32} {L : Nat → Nat → Int64}  {a1 : Int32} {q : Int32} (d : Nat) (hd : 1 ≤ d) (G : GW K P)   (hm : mX12_isPainter I a1 = some q) : MX E B d 0 0 yX12_isPainter cX12_isPainter 2 (some .boolean) [.ref 123, .int a1] (n, K, P, I, L) (some (.int q), (n, K, P, I, L)) := by
  refine MX_of (lv := [(0, .ref 123), (1, .int a1)]) (by decide +kernel) (Nat.le_of_ble_eq_true rfl) rfl ?_
  obtain ⟨d, rfl⟩ : ∃ d0, d = d0 + 1 := ⟨d - 1, by omega⟩
  unfold mX12_isPainter at hm
  refine X_iload_n 1 dX12_isPainter_0 rfl rfl ?_
  refine X_i2l dX12_isPainter_1 ?_
  refine X_lconst (v := (0 : Int64)) dX12_isPainter_2 (by decide) ?_
  refine X_aload_n 0 dX12_isPainter_3 rfl rfl rfl ?_
  refine X_getPe fl_X12_9 (g_K123 G) rfl (g_P123_1 G) dX12_isPainter_4 ?_
  refine X_iconst (v := (5 : Int32)) dX12_isPainter_7 (by decide) ?_
  refine X_ialdJ (j := 5) (g_K124 G) rfl (by decide) dX12_isPainter_8 ?_
  refine X_iconst (v := (1 : Int32)) dX12_isPainter_9 (by decide) ?_
  refine X_isub dX12_isPainter_10 ?_
  refine X_i2l dX12_isPainter_11 ?_
  obtain ⟨q1, e2, hm⟩ := ob hm
  refine X_cS1 (kX12_in d (by omega) G e2) ml_X12_164 ms_X12_in rfl rfl (Nat.le_refl _) ⟨Nat.le_refl _, Nat.le_refl _⟩ (Nat.le_of_ble_eq_true rfl) dX12_isPainter_12 ?_
  obtain ⟨g3, hm⟩ := og hm
  replace hm := Option.some.inj hm
  subst hm
  exact X_zret dX12_isPainter_15 rfl (x_nz g3)
def mX12_put_3   : Nat → (Nat → Nat → Int32) → Int32 → Int32 → Option ((Nat → Nat → Int32))
  | 0, _, _, _ => none
  | f + 1, I, a1, a2 => (if a2 < 0 then (some I) else (if inb (I 123 27) 400 = true then (mX12_put_3 f (xu (xu I 150 (ix (I 123 27)) (xi2b (xi2b (xshr a1 a2)))) 123 27 (((xu I 150 (ix (I 123 27)) (xi2b (xi2b (xshr a1 a2)))) 123 27) + (1 : Int32))) a1 (a2 + (-8))) else none))
set_option maxHeartbeats 400000 in
set_option maxRecDepth 100000 in
theorem kX12_put_3 {E : xE} {B : Nat} {n : Nat} {K : Nat → Nat × Nat} {P : Nat → Nat → Nat} {L : Nat → Nat → Int64}   {q : (Nat → Nat → Int32)} (d : Nat) (hd : 0 ≤ d) (G : GW K P)   : ∀ (f : Nat) (I : Nat → Nat → Int32) (a1 : Int32) (a2 : Int32), mX12_put_3 f I a1 a2 = some q → X E B d 0 0 yX12_put cX12_put 3 (none : Option Jvm.ClassFile.FieldType) (none, (n, K, P, q, L)) 3 [(0, .ref 123), (1, .int a1), (2, .int a2)] [] 0 0 (n, K, P, I, L) := by
  intro f
  induction f with
  | zero => intro _ _ _ hm; exact nomatch (show (none : Option ((Nat → Nat → Int32))) = some q from hm)
  | succ f ih =>
    intro I a1 a2 hm
    rw [mX12_put_3] at hm
    refine X_iload_n 2 dX12_put_3 rfl rfl ?_
    refine X_if_lt (tgt := 36) dX12_put_4 (by decide) (fun c1 => ?_) (fun c1 => ?_)
    · replace hm := ip c1 hm
      replace hm := Option.some.inj hm
      subst hm
      exact X_vret dX12_put_36 rfl
    · replace hm := iq c1 hm
      refine X_aload_n 0 dX12_put_7 rfl rfl rfl ?_
      refine X_getPe fl_X12_92 (g_K123 G) rfl (g_P123_37 G) dX12_put_8 ?_
      refine X_aload_n 0 dX12_put_11 rfl rfl rfl ?_
      refine X_getI fl_X12_168 (g_K123 G) rfl dX12_put_12 ?_
      refine X_iload_n 1 dX12_put_15 rfl rfl ?_
      refine X_iload_n 2 dX12_put_16 rfl rfl ?_
      refine X_ishr dX12_put_17 ?_
      refine X_i2b dX12_put_18 ?_
      obtain ⟨g2, hm⟩ := og hm
      refine X_bastJ (g_K150 G) g2 rfl dX12_put_19 ?_
      refine X_aload_n 0 dX12_put_20 rfl rfl rfl ?_
      refine X_dup dX12_put_21 rfl ?_
      refine X_getI fl_X12_168 (g_K123 G) rfl dX12_put_22 ?_
      refine X_iconst (v := (1 : Int32)) dX12_put_25 (by decide) ?_
      refine X_iadd dX12_put_26 ?_
      refine X_putI fl_X12_168 (g_K123 G) rfl rfl dX12_put_27 ?_
      refine X_iinc (lv' := [(2, .int (a2 + (-8))), (0, .ref 123), (1, .int a1)]) 2 dX12_put_30 rfl rfl (by decide) rfl ?_
      refine X_goto (tgt := 3) dX12_put_33 (by decide) ?_
      exact X_lv [1, 2, 0] rfl (ih _ _ _ hm)
def mX12_put  (I : Nat → Nat → Int32) (a1 : Int32) : Option ((Nat → Nat → Int32)) := (mX12_put_3 xf I a1 (24 : Int32))
set_option maxHeartbeats 400000 in
set_option maxRecDepth 100000 in
theorem kX12_put {E : xE} {B : Nat} {n : Nat} {K : Nat → Nat × Nat} {P : Nat → Nat → Nat} {I : Nat → Nat → Int32} {L : Nat → Nat → Int64}  {a1 : Int32} {q : (Nat → Nat → Int32)} (d : Nat) (hd : 0 ≤ d) (G : GW K P)   (hm : mX12_put I a1 = some q) : MX E B d 0 0 yX12_put cX12_put 3 (none : Option Jvm.ClassFile.FieldType) [.ref 123, .int a1] (n, K, P, I, L) (none, (n, K, P, q, L)) := by
  refine MX_of (lv := [(0, .ref 123), (1, .int a1)]) (by decide +kernel) (Nat.le_of_ble_eq_true rfl) rfl ?_
  unfold mX12_put at hm
  refine X_bipush (v := (24 : Int32)) dX12_put_0 (by decide) ?_
  refine X_istore_n (lv' := [(2, .int (24 : Int32)), (0, .ref 123), (1, .int a1)]) dX12_put_2 rfl (by decide) rfl ?_
  refine X_lv [1, 2, 0] rfl (kX12_put_3 _ hd G xf _ _ _  hm)
def mX12_feed  (I : Nat → Nat → Int32) (a1 : Int32) (a2 : Int32) (a3 : Int32) (a4 : Int32) (a5 : Int32) : Option (Int32 × (Nat → Nat → Int32)) := (if ((I 123 27) + (20 : Int32)) ≤ (400 : Int32) then (Option.bind (mX12_put I a1) (fun q2 => (Option.bind (mX12_put q2 a2) (fun q4 => (Option.bind (mX12_put q4 a3) (fun q6 => (Option.bind (mX12_put q6 a4) (fun q8 => (Option.bind (mX12_put q8 a5) (fun q10 => (some ((q10 123 27), q10)))))))))))) else (some ((-1 : Int32), I)))
set_option maxHeartbeats 400000 in
set_option maxRecDepth 100000 in
theorem kX12_feed {E : xE} {B : Nat} {n : Nat} {K : Nat → Nat × Nat} {P : Nat → Nat → Nat} {I : Nat → Nat → Int32} {L : Nat → Nat → Int64}  {a1 : Int32} {a2 : Int32} {a3 : Int32} {a4 : Int32} {a5 : Int32} {q : Int32 × (Nat → Nat → Int32)} (d : Nat) (hd : 1 ≤ d) (G : GW K P)   (hm : mX12_feed I a1 a2 a3 a4 a5 = some q) : MX E B d 0 0 yX12_feed cX12_feed 6 (some .int) [.ref 123, .int a1, .int a2, .int a3, .int a4, .int a5] (n, K, P, I, L) (some (.int q.1), (n, K, P, q.2, L)) := by
  refine MX_of (lv := [(0, .ref 123), (1, .int a1), (2, .int a2), (3, .int a3), (4, .int a4), (5, .int a5)]) (by decide +kernel) (Nat.le_of_ble_eq_true rfl) rfl ?_
  obtain ⟨d, rfl⟩ : ∃ d0, d = d0 + 1 := ⟨d - 1, by omega⟩
  unfold mX12_feed at hm
  refine X_aload_n 0 dX12_feed_0 rfl rfl rfl ?_
  refine X_getI fl_X12_168 (g_K123 G) rfl dX12_feed_1 ?_
  refine X_bipush (v := (20 : Int32)) dX12_feed_4 (by decide) ?_
  refine X_iadd dX12_feed_6 ?_
  refine X_sipush (v := (400 : Int32)) dX12_feed_7 (by decide) ?_
  refine X_icmp_le (tgt := 15) dX12_feed_10 (by decide) (fun c1 => ?_) (fun c1 => ?_)
  · replace hm := ip c1 hm
    refine X_aload_n 0 dX12_feed_15 rfl rfl rfl ?_
    refine X_iload_n 1 dX12_feed_16 rfl rfl ?_
    obtain ⟨q2, e3, hm⟩ := ob hm
    refine X_cV0 (ci := 11) (kX12_put d (by omega) G e3) ml_X12_171 mi_X12_put rfl cf_11 (g_K123 G) rfl rfl (Nat.le_refl _) ⟨Nat.le_refl _, Nat.le_refl _⟩ (Nat.le_of_ble_eq_true rfl) dX12_feed_17 ?_
    refine X_aload_n 0 dX12_feed_20 rfl rfl rfl ?_
    refine X_iload_n 2 dX12_feed_21 rfl rfl ?_
    obtain ⟨q4, e5, hm⟩ := ob hm
    refine X_cV0 (ci := 11) (kX12_put d (by omega) G e5) ml_X12_171 mi_X12_put rfl cf_11 (g_K123 G) rfl rfl (Nat.le_refl _) ⟨Nat.le_refl _, Nat.le_refl _⟩ (Nat.le_of_ble_eq_true rfl) dX12_feed_22 ?_
    refine X_aload_n 0 dX12_feed_25 rfl rfl rfl ?_
    refine X_iload_n 3 dX12_feed_26 rfl rfl ?_
    obtain ⟨q6, e7, hm⟩ := ob hm
    refine X_cV0 (ci := 11) (kX12_put d (by omega) G e7) ml_X12_171 mi_X12_put rfl cf_11 (g_K123 G) rfl rfl (Nat.le_refl _) ⟨Nat.le_refl _, Nat.le_refl _⟩ (Nat.le_of_ble_eq_true rfl) dX12_feed_27 ?_
    refine X_aload_n 0 dX12_feed_30 rfl rfl rfl ?_
    refine X_iload 4 dX12_feed_31 rfl ?_
    obtain ⟨q8, e9, hm⟩ := ob hm
    refine X_cV0 (ci := 11) (kX12_put d (by omega) G e9) ml_X12_171 mi_X12_put rfl cf_11 (g_K123 G) rfl rfl (Nat.le_refl _) ⟨Nat.le_refl _, Nat.le_refl _⟩ (Nat.le_of_ble_eq_true rfl) dX12_feed_33 ?_
    refine X_aload_n 0 dX12_feed_36 rfl rfl rfl ?_
    refine X_iload 5 dX12_feed_37 rfl ?_
    obtain ⟨q10, e11, hm⟩ := ob hm
    refine X_cV0 (ci := 11) (kX12_put d (by omega) G e11) ml_X12_171 mi_X12_put rfl cf_11 (g_K123 G) rfl rfl (Nat.le_refl _) ⟨Nat.le_refl _, Nat.le_refl _⟩ (Nat.le_of_ble_eq_true rfl) dX12_feed_39 ?_
    refine X_aload_n 0 dX12_feed_42 rfl rfl rfl ?_
    refine X_getI fl_X12_168 (g_K123 G) rfl dX12_feed_43 ?_
    replace hm := Option.some.inj hm
    subst hm
    exact X_iret dX12_feed_46 rfl
  · replace hm := iq c1 hm
    refine X_iconst (v := (-1 : Int32)) dX12_feed_13 (by decide) ?_
    replace hm := Option.some.inj hm
    subst hm
    exact X_iret dX12_feed_14 rfl
def mX12_end  (I : Nat → Nat → Int32) (a1 : Int32) : Option (Int32 × (Nat → Nat → Int32)) := (if a1 < 0 then (some ((-1 : Int32), I)) else (if a1 ≤ (I 123 27) then (some (a1, (xu I 123 27 a1))) else (some ((-1 : Int32), I))))
set_option maxHeartbeats 400000 in
set_option maxRecDepth 100000 in
theorem kX12_end {E : xE} {B : Nat} {n : Nat} {K : Nat → Nat × Nat} {P : Nat → Nat → Nat} {I : Nat → Nat → Int32} {L : Nat → Nat → Int64}  {a1 : Int32} {q : Int32 × (Nat → Nat → Int32)} (d : Nat) (hd : 0 ≤ d) (G : GW K P)   (hm : mX12_end I a1 = some q) : MX E B d 0 0 yX12_end cX12_end 2 (some .int) [.ref 123, .int a1] (n, K, P, I, L) (some (.int q.1), (n, K, P, q.2, L)) := by
  refine MX_of (lv := [(0, .ref 123), (1, .int a1)]) (by decide +kernel) (Nat.le_of_ble_eq_true rfl) rfl ?_
  unfold mX12_end at hm
  refine X_iload_n 1 dX12_end_0 rfl rfl ?_
  refine X_if_lt (tgt := 12) dX12_end_1 (by decide) (fun c1 => ?_) (fun c1 => ?_)
  · replace hm := ip c1 hm
    refine X_iconst (v := (-1 : Int32)) dX12_end_12 (by decide) ?_
    replace hm := Option.some.inj hm
    subst hm
    exact X_iret dX12_end_13 rfl
  · replace hm := iq c1 hm
    refine X_iload_n 1 dX12_end_4 rfl rfl ?_
    refine X_aload_n 0 dX12_end_5 rfl rfl rfl ?_
    refine X_getI fl_X12_168 (g_K123 G) rfl dX12_end_6 ?_
    refine X_icmp_le (tgt := 14) dX12_end_9 (by decide) (fun c2 => ?_) (fun c2 => ?_)
    · replace hm := ip c2 hm
      refine X_aload_n 0 dX12_end_14 rfl rfl rfl ?_
      refine X_iload_n 1 dX12_end_15 rfl rfl ?_
      refine X_putI fl_X12_168 (g_K123 G) rfl rfl dX12_end_16 ?_
      refine X_iload_n 1 dX12_end_19 rfl rfl ?_
      replace hm := Option.some.inj hm
      subst hm
      exact X_iret dX12_end_20 rfl
    · replace hm := iq c2 hm
      refine X_iconst (v := (-1 : Int32)) dX12_end_12 (by decide) ?_
      replace hm := Option.some.inj hm
      subst hm
      exact X_iret dX12_end_13 rfl
def mX12_wordOf  (a0 : Int32) : Option (Nat) := (if a0 = (0 : Int32) then (some 4) else (if a0 = (1 : Int32) then (some 10) else (if a0 = (2 : Int32) then (some 3) else (if a0 = (3 : Int32) then (some 11) else (if a0 = (4 : Int32) then (some 12) else (if a0 = (5 : Int32) then (some 13) else (if a0 = (6 : Int32) then (some 14) else (if a0 = (7 : Int32) then (some 15) else (if a0 = (8 : Int32) then (some 16) else (if a0 = (9 : Int32) then (some 17) else (if a0 = (10 : Int32) then (some 18) else (if a0 = (11 : Int32) then (some 19) else (some 7)))))))))))))
set_option maxHeartbeats 400000 in
set_option maxRecDepth 100000 in
theorem kX12_wordOf {E : xE} {B : Nat} {n : Nat} {K : Nat → Nat × Nat} {P : Nat → Nat → Nat} {I : Nat → Nat → Int32} {L : Nat → Nat → Int64}  {a0 : Int32} {q : Nat} (d : Nat) (hd : 0 ≤ d) (G : GW K P)   (hm : mX12_wordOf a0 = some q) : MX E B d 0 0 yX12_wordOf cX12_wordOf 1 (some (.object "java/lang/String")) [.int a0] (n, K, P, I, L) (some (.retAddr q), (n, K, P, I, L)) := by
  refine MX_of (lv := [(0, .int a0)]) (by decide +kernel) (Nat.le_of_ble_eq_true rfl) rfl ?_
  unfold mX12_wordOf at hm
  refine X_iload_n 0 dX12_wordOf_0 rfl rfl ?_
  rcases Decidable.em (a0 = (0 : Int32)) with c1 | c1
  · replace hm := ip c1 hm
    refine X_swK (off := 63) (tgt := 64) c1 dX12_wordOf_1 (by decide) (by decide) (by decide) (by decide) ?_
    refine X_ldcS (i := 4) rfl (by decide) dX12_wordOf_64 ?_
    replace hm := Option.some.inj hm
    subst hm
    exact X_aret dX12_wordOf_66 rfl (Or.inl ⟨_, rfl⟩) rfl
  · replace hm := iq c1 hm
    rcases Decidable.em (a0 = (1 : Int32)) with c2 | c2
    · replace hm := ip c2 hm
      refine X_swK (off := 66) (tgt := 67) c2 dX12_wordOf_1 (by decide) (by decide) (by decide) (by decide) ?_
      refine X_ldcS (i := 10) rfl (by decide) dX12_wordOf_67 ?_
      replace hm := Option.some.inj hm
      subst hm
      exact X_aret dX12_wordOf_69 rfl (Or.inl ⟨_, rfl⟩) rfl
    · replace hm := iq c2 hm
      rcases Decidable.em (a0 = (2 : Int32)) with c3 | c3
      · replace hm := ip c3 hm
        refine X_swK (off := 69) (tgt := 70) c3 dX12_wordOf_1 (by decide) (by decide) (by decide) (by decide) ?_
        refine X_ldcS (i := 3) rfl (by decide) dX12_wordOf_70 ?_
        replace hm := Option.some.inj hm
        subst hm
        exact X_aret dX12_wordOf_72 rfl (Or.inl ⟨_, rfl⟩) rfl
      · replace hm := iq c3 hm
        rcases Decidable.em (a0 = (3 : Int32)) with c4 | c4
        · replace hm := ip c4 hm
          refine X_swK (off := 72) (tgt := 73) c4 dX12_wordOf_1 (by decide) (by decide) (by decide) (by decide) ?_
          refine X_ldcS (i := 11) rfl (by decide) dX12_wordOf_73 ?_
          replace hm := Option.some.inj hm
          subst hm
          exact X_aret dX12_wordOf_75 rfl (Or.inl ⟨_, rfl⟩) rfl
        · replace hm := iq c4 hm
          rcases Decidable.em (a0 = (4 : Int32)) with c5 | c5
          · replace hm := ip c5 hm
            refine X_swK (off := 75) (tgt := 76) c5 dX12_wordOf_1 (by decide) (by decide) (by decide) (by decide) ?_
            refine X_ldcS (i := 12) rfl (by decide) dX12_wordOf_76 ?_
            replace hm := Option.some.inj hm
            subst hm
            exact X_aret dX12_wordOf_78 rfl (Or.inl ⟨_, rfl⟩) rfl
          · replace hm := iq c5 hm
            rcases Decidable.em (a0 = (5 : Int32)) with c6 | c6
            · replace hm := ip c6 hm
              refine X_swK (off := 78) (tgt := 79) c6 dX12_wordOf_1 (by decide) (by decide) (by decide) (by decide) ?_
              refine X_ldcS (i := 13) rfl (by decide) dX12_wordOf_79 ?_
              replace hm := Option.some.inj hm
              subst hm
              exact X_aret dX12_wordOf_81 rfl (Or.inl ⟨_, rfl⟩) rfl
            · replace hm := iq c6 hm
              rcases Decidable.em (a0 = (6 : Int32)) with c7 | c7
              · replace hm := ip c7 hm
                refine X_swK (off := 81) (tgt := 82) c7 dX12_wordOf_1 (by decide) (by decide) (by decide) (by decide) ?_
                refine X_ldcS (i := 14) rfl (by decide) dX12_wordOf_82 ?_
                replace hm := Option.some.inj hm
                subst hm
                exact X_aret dX12_wordOf_84 rfl (Or.inl ⟨_, rfl⟩) rfl
              · replace hm := iq c7 hm
                rcases Decidable.em (a0 = (7 : Int32)) with c8 | c8
                · replace hm := ip c8 hm
                  refine X_swK (off := 84) (tgt := 85) c8 dX12_wordOf_1 (by decide) (by decide) (by decide) (by decide) ?_
                  refine X_ldcS (i := 15) rfl (by decide) dX12_wordOf_85 ?_
                  replace hm := Option.some.inj hm
                  subst hm
                  exact X_aret dX12_wordOf_87 rfl (Or.inl ⟨_, rfl⟩) rfl
                · replace hm := iq c8 hm
                  rcases Decidable.em (a0 = (8 : Int32)) with c9 | c9
                  · replace hm := ip c9 hm
                    refine X_swK (off := 87) (tgt := 88) c9 dX12_wordOf_1 (by decide) (by decide) (by decide) (by decide) ?_
                    refine X_ldcS (i := 16) rfl (by decide) dX12_wordOf_88 ?_
                    replace hm := Option.some.inj hm
                    subst hm
                    exact X_aret dX12_wordOf_90 rfl (Or.inl ⟨_, rfl⟩) rfl
                  · replace hm := iq c9 hm
                    rcases Decidable.em (a0 = (9 : Int32)) with c10 | c10
                    · replace hm := ip c10 hm
                      refine X_swK (off := 90) (tgt := 91) c10 dX12_wordOf_1 (by decide) (by decide) (by decide) (by decide) ?_
                      refine X_ldcS (i := 17) rfl (by decide) dX12_wordOf_91 ?_
                      replace hm := Option.some.inj hm
                      subst hm
                      exact X_aret dX12_wordOf_93 rfl (Or.inl ⟨_, rfl⟩) rfl
                    · replace hm := iq c10 hm
                      rcases Decidable.em (a0 = (10 : Int32)) with c11 | c11
                      · replace hm := ip c11 hm
                        refine X_swK (off := 93) (tgt := 94) c11 dX12_wordOf_1 (by decide) (by decide) (by decide) (by decide) ?_
                        refine X_ldcS (i := 18) rfl (by decide) dX12_wordOf_94 ?_
                        replace hm := Option.some.inj hm
                        subst hm
                        exact X_aret dX12_wordOf_96 rfl (Or.inl ⟨_, rfl⟩) rfl
                      · replace hm := iq c11 hm
                        rcases Decidable.em (a0 = (11 : Int32)) with c12 | c12
                        · replace hm := ip c12 hm
                          refine X_swK (off := 96) (tgt := 97) c12 dX12_wordOf_1 (by decide) (by decide) (by decide) (by decide) ?_
                          refine X_ldcS (i := 19) rfl (by decide) dX12_wordOf_97 ?_
                          replace hm := Option.some.inj hm
                          subst hm
                          exact X_aret dX12_wordOf_99 rfl (Or.inl ⟨_, rfl⟩) rfl
                        · replace hm := iq c12 hm
                          refine X_tableOut (tgt := 100) dX12_wordOf_1 (sw_out 12 (by decide) (fun i hi => by
                            have hi2 : i = 0 ∨ i = 1 ∨ i = 2 ∨ i = 3 ∨ i = 4 ∨ i = 5 ∨ i = 6 ∨ i = 7 ∨ i = 8 ∨ i = 9 ∨ i = 10 ∨ i = 11 := by omega
                            rcases hi2 with rfl | rfl | rfl | rfl | rfl | rfl | rfl | rfl | rfl | rfl | rfl | rfl
                            · exact c1
                            · exact c2
                            · exact c3
                            · exact c4
                            · exact c5
                            · exact c6
                            · exact c7
                            · exact c8
                            · exact c9
                            · exact c10
                            · exact c11
                            · exact c12)) (by decide) ?_
                          refine X_ldcS (i := 7) rfl (by decide) dX12_wordOf_100 ?_
                          replace hm := Option.some.inj hm
                          subst hm
                          exact X_aret dX12_wordOf_102 rfl (Or.inl ⟨_, rfl⟩) rfl
theorem rs_X12_wordOf {a0 : Int32} {q : Nat} (e : mX12_wordOf a0 = some q) : q < 24 := by
  unfold mX12_wordOf at e
  repeat' split at e
  all_goals (cases e; decide)
def mX12_fails  (I : Nat → Nat → Int32) (a1 : Int32) (a2 : Int32) : Option ((Nat → Nat → Int32)) := (if (I 123 29) = 0 then (some (xu I 123 29 (((1 : Int32) + ((8 : Int32) * a2)) + a1))) else (some (xu I 123 29 (I 123 29))))
set_option maxHeartbeats 400000 in
set_option maxRecDepth 100000 in
theorem kX12_fails {E : xE} {B : Nat} {n : Nat} {K : Nat → Nat × Nat} {P : Nat → Nat → Nat} {I : Nat → Nat → Int32} {L : Nat → Nat → Int64}  {a1 : Int32} {a2 : Int32} {q : (Nat → Nat → Int32)} (d : Nat) (hd : 0 ≤ d) (G : GW K P)   (hm : mX12_fails I a1 a2 = some q) : MX E B d 0 0 yX12_fails cX12_fails 3 (none : Option Jvm.ClassFile.FieldType) [.ref 123, .int a1, .int a2] (n, K, P, I, L) (none, (n, K, P, q, L)) := by
  refine MX_of (lv := [(0, .ref 123), (1, .int a1), (2, .int a2)]) (by decide +kernel) (Nat.le_of_ble_eq_true rfl) rfl ?_
  unfold mX12_fails at hm
  refine X_aload_n 0 dX12_fails_0 rfl rfl rfl ?_
  refine X_aload_n 0 dX12_fails_1 rfl rfl rfl ?_
  refine X_getI fl_X12_199 (g_K123 G) rfl dX12_fails_2 ?_
  refine X_if_ne (tgt := 19) dX12_fails_5 (by decide) (fun c1 => ?_) (fun c1 => ?_)
  · replace hm := iq c1 hm
    refine X_aload_n 0 dX12_fails_19 rfl rfl rfl ?_
    refine X_getI fl_X12_199 (g_K123 G) rfl dX12_fails_20 ?_
    refine X_putI fl_X12_199 (g_K123 G) rfl rfl dX12_fails_23 ?_
    replace hm := Option.some.inj hm
    subst hm
    exact X_vret dX12_fails_26 rfl
  · replace hm := ip c1 hm
    refine X_iconst (v := (1 : Int32)) dX12_fails_8 (by decide) ?_
    refine X_bipush (v := (8 : Int32)) dX12_fails_9 (by decide) ?_
    refine X_iload_n 2 dX12_fails_11 rfl rfl ?_
    refine X_imul dX12_fails_12 ?_
    refine X_iadd dX12_fails_13 ?_
    refine X_iload_n 1 dX12_fails_14 rfl rfl ?_
    refine X_iadd dX12_fails_15 ?_
    refine X_goto (tgt := 23) dX12_fails_16 (by decide) ?_
    refine X_putI fl_X12_199 (g_K123 G) rfl rfl dX12_fails_23 ?_
    replace hm := Option.some.inj hm
    subst hm
    exact X_vret dX12_fails_26 rfl
def mX12_sign (I : Nat → Nat → Int32)  : Option (Int32) := (if (I 123 27) ≤ (I 123 28) then (some (-1 : Int32)) else (if inb (I 123 28) 400 = true then (some ((I 150 (ix (I 123 28))) &&& (255 : Int32))) else none))
set_option maxHeartbeats 400000 in
set_option maxRecDepth 100000 in
theorem kX12_sign {E : xE} {B : Nat} {n : Nat} {K : Nat → Nat × Nat} {P : Nat → Nat → Nat} {I : Nat → Nat → Int32} {L : Nat → Nat → Int64}   {q : Int32} (d : Nat) (hd : 0 ≤ d) (G : GW K P)   (hm : mX12_sign I = some q) : MX E B d 0 0 yX12_sign cX12_sign 1 (some .int) [.ref 123] (n, K, P, I, L) (some (.int q), (n, K, P, I, L)) := by
  refine MX_of (lv := [(0, .ref 123)]) (by decide +kernel) (Nat.le_of_ble_eq_true rfl) rfl ?_
  unfold mX12_sign at hm
  refine X_aload_n 0 dX12_sign_0 rfl rfl rfl ?_
  refine X_getI fl_X12_202 (g_K123 G) rfl dX12_sign_1 ?_
  refine X_aload_n 0 dX12_sign_4 rfl rfl rfl ?_
  refine X_getI fl_X12_168 (g_K123 G) rfl dX12_sign_5 ?_
  refine X_icmp_ge (tgt := 27) dX12_sign_8 (by decide) (fun c1 => ?_) (fun c1 => ?_)
  · replace hm := ip c1 hm
    refine X_iconst (v := (-1 : Int32)) dX12_sign_27 (by decide) ?_
    replace hm := Option.some.inj hm
    subst hm
    exact X_iret dX12_sign_28 rfl
  · replace hm := iq c1 hm
    refine X_aload_n 0 dX12_sign_11 rfl rfl rfl ?_
    refine X_getPe fl_X12_92 (g_K123 G) rfl (g_P123_37 G) dX12_sign_12 ?_
    refine X_aload_n 0 dX12_sign_15 rfl rfl rfl ?_
    refine X_getI fl_X12_202 (g_K123 G) rfl dX12_sign_16 ?_
    obtain ⟨g2, hm⟩ := og hm
    refine X_baldJ (g_K150 G) g2 rfl dX12_sign_19 ?_
    refine X_sipush (v := (255 : Int32)) dX12_sign_20 (by decide) ?_
    refine X_iand dX12_sign_23 ?_
    refine X_goto (tgt := 28) dX12_sign_24 (by decide) ?_
    replace hm := Option.some.inj hm
    subst hm
    exact X_iret dX12_sign_28 rfl
def mX12_blanks_0   : Nat → (Nat → Nat → Int32) → Option ((Nat → Nat → Int32))
  | 0, _ => none
  | f + 1, I => (Option.bind (mX12_sign I) (fun q1 => (if q1 = (32 : Int32) then (mX12_blanks_0 f (xu I 123 28 ((I 123 28) + (1 : Int32)))) else (some I))))
set_option maxHeartbeats 400000 in
set_option maxRecDepth 100000 in
theorem kX12_blanks_0 {E : xE} {B : Nat} {n : Nat} {K : Nat → Nat × Nat} {P : Nat → Nat → Nat} {L : Nat → Nat → Int64}   {q : (Nat → Nat → Int32)} (d : Nat) (hd : 1 ≤ d) (G : GW K P)   : ∀ (f : Nat) (I : Nat → Nat → Int32), mX12_blanks_0 f I = some q → X E B d 0 0 yX12_blanks cX12_blanks 1 (none : Option Jvm.ClassFile.FieldType) (none, (n, K, P, q, L)) 0 [(0, .ref 123)] [] 0 0 (n, K, P, I, L) := by
  obtain ⟨d, rfl⟩ : ∃ d0, d = d0 + 1 := ⟨d - 1, by omega⟩
  intro f
  induction f with
  | zero => intro _ hm; exact nomatch (show (none : Option ((Nat → Nat → Int32))) = some q from hm)
  | succ f ih =>
    intro I hm
    rw [mX12_blanks_0] at hm
    refine X_aload_n 0 dX12_blanks_0 rfl rfl rfl ?_
    obtain ⟨q1, e2, hm⟩ := ob hm
    refine X_cV1 (ci := 11) (kX12_sign d (by omega) G e2) ml_X12_205 mi_X12_sign rfl cf_11 (g_K123 G) rfl rfl (Nat.le_refl _) ⟨Nat.le_refl _, Nat.le_refl _⟩ (Nat.le_of_ble_eq_true rfl) dX12_blanks_1 ?_
    refine X_bipush (v := (32 : Int32)) dX12_blanks_4 (by decide) ?_
    refine X_icmp_ne (tgt := 22) dX12_blanks_6 (by decide) (fun c3 => ?_) (fun c3 => ?_)
    · replace hm := iq c3 hm
      replace hm := Option.some.inj hm
      subst hm
      exact X_vret dX12_blanks_22 rfl
    · replace hm := ip c3 hm
      refine X_aload_n 0 dX12_blanks_9 rfl rfl rfl ?_
      refine X_dup dX12_blanks_10 rfl ?_
      refine X_getI fl_X12_202 (g_K123 G) rfl dX12_blanks_11 ?_
      refine X_iconst (v := (1 : Int32)) dX12_blanks_14 (by decide) ?_
      refine X_iadd dX12_blanks_15 ?_
      refine X_putI fl_X12_202 (g_K123 G) rfl rfl dX12_blanks_16 ?_
      refine X_goto (tgt := 0) dX12_blanks_19 (by decide) ?_
      exact ih _ hm
def mX12_blanks  (I : Nat → Nat → Int32) : Option ((Nat → Nat → Int32)) := (mX12_blanks_0 xf I)
set_option maxHeartbeats 400000 in
set_option maxRecDepth 100000 in
theorem kX12_blanks {E : xE} {B : Nat} {n : Nat} {K : Nat → Nat × Nat} {P : Nat → Nat → Nat} {I : Nat → Nat → Int32} {L : Nat → Nat → Int64}   {q : (Nat → Nat → Int32)} (d : Nat) (hd : 1 ≤ d) (G : GW K P)   (hm : mX12_blanks I = some q) : MX E B d 0 0 yX12_blanks cX12_blanks 1 (none : Option Jvm.ClassFile.FieldType) [.ref 123] (n, K, P, I, L) (none, (n, K, P, q, L)) := by
  refine MX_of (lv := [(0, .ref 123)]) (by decide +kernel) (Nat.le_of_ble_eq_true rfl) rfl ?_
  obtain ⟨d, rfl⟩ : ∃ d0, d = d0 + 1 := ⟨d - 1, by omega⟩
  unfold mX12_blanks at hm
  refine kX12_blanks_0 _ hd G xf _  hm
def mX12_isDigit (I : Nat → Nat → Int32)  : Option (Int32) := (Option.bind (mX12_sign I) (fun q1 => (Option.bind (mX12_in q1.toInt64 (48 : Int64) (57 : Int64)) (fun q3 => (if q3 = 0 ∨ q3 = 1 then (some q3) else none)))))
set_option maxHeartbeats 400000 in
set_option maxRecDepth 100000 in
theorem kX12_isDigit {E : xE} {B : Nat} {n : Nat} {K : Nat → Nat × Nat} {P : Nat → Nat → Nat} {I : Nat → Nat → Int32} {L : Nat → Nat → Int64}   {q : Int32} (d : Nat) (hd : 1 ≤ d) (G : GW K P)   (hm : mX12_isDigit I = some q) : MX E B d 0 0 yX12_isDigit cX12_isDigit 1 (some .boolean) [.ref 123] (n, K, P, I, L) (some (.int q), (n, K, P, I, L)) := by
  refine MX_of (lv := [(0, .ref 123)]) (by decide +kernel) (Nat.le_of_ble_eq_true rfl) rfl ?_
  obtain ⟨d, rfl⟩ : ∃ d0, d = d0 + 1 := ⟨d - 1, by omega⟩
  unfold mX12_isDigit at hm
  refine X_aload_n 0 dX12_isDigit_0 rfl rfl rfl ?_
  obtain ⟨q1, e2, hm⟩ := ob hm
  refine X_cV1 (ci := 11) (kX12_sign d (by omega) G e2) ml_X12_205 mi_X12_sign rfl cf_11 (g_K123 G) rfl rfl (Nat.le_refl _) ⟨Nat.le_refl _, Nat.le_refl _⟩ (Nat.le_of_ble_eq_true rfl) dX12_isDigit_1 ?_
  refine X_i2l dX12_isDigit_4 ?_
  refine X_ldc2 lc_X12_209 dX12_isDigit_5 ?_
  refine X_ldc2 lc_X12_211 dX12_isDigit_8 ?_
  obtain ⟨q3, e4, hm⟩ := ob hm
  refine X_cS1 (kX12_in d (by omega) G e4) ml_X12_164 ms_X12_in rfl rfl (Nat.le_refl _) ⟨Nat.le_refl _, Nat.le_refl _⟩ (Nat.le_of_ble_eq_true rfl) dX12_isDigit_11 ?_
  obtain ⟨g5, hm⟩ := og hm
  replace hm := Option.some.inj hm
  subst hm
  exact X_zret dX12_isDigit_14 rfl (x_nz g5)
def mX12_stood_5 (I : Nat → Nat → Int32) (e41 : Nat → Int32 → Option (Int32)) : Nat → Nat → Int32 → Option (Int32)
  | 0, _, _ => none
  | f + 1, a1, a2 => (if (I 123 27) ≤ a2 then (e41 a1 a2) else (if inb a2 400 = true then (if (I 150 (ix a2)) < (97 : Int32) then (e41 a1 a2) else (if inb a2 400 = true then (if (122 : Int32) < (I 150 (ix a2)) then (e41 a1 a2) else (mX12_stood_5 I e41 f a1 (a2 + 1))) else none)) else none))
set_option maxHeartbeats 400000 in
set_option maxRecDepth 100000 in
theorem kX12_stood_5 {E : xE} {B : Nat} {n : Nat} {K : Nat → Nat × Nat} {P : Nat → Nat → Nat} {I : Nat → Nat → Int32} {L : Nat → Nat → Int64}  {e41 : Nat → Int32 → Option (Int32)} {q : Int32} (d : Nat) (hd : 5 ≤ d) (G : GW K P)  (he41 : ∀ (a1 : Nat) (a2 : Int32), a1 < 24 → e41 a1 a2 = some q → X E B d 0 0 yX12_stood cX12_stood 5 (some .boolean) (some (.int q), (n, K, P, I, L)) 41 [(0, .ref 123), (1, .retAddr a1), (2, .int a2)] [] 0 0 (n, K, P, I, L)) : ∀ (f : Nat) (a1 : Nat) (a2 : Int32), a1 < 24 → mX12_stood_5 I e41 f a1 a2 = some q → X E B d 0 0 yX12_stood cX12_stood 5 (some .boolean) (some (.int q), (n, K, P, I, L)) 5 [(0, .ref 123), (1, .retAddr a1), (2, .int a2)] [] 0 0 (n, K, P, I, L) := by
  obtain ⟨d, rfl⟩ : ∃ d0, d = d0 + 1 := ⟨d - 1, by omega⟩
  intro f
  induction f with
  | zero => intro _ _ _ hm; exact nomatch (show (none : Option (Int32)) = some q from hm)
  | succ f ih =>
    intro a1 a2 h1 hm
    rw [mX12_stood_5] at hm
    refine X_iload_n 2 dX12_stood_5 rfl rfl ?_
    refine X_aload_n 0 dX12_stood_6 rfl rfl rfl ?_
    refine X_getI fl_X12_168 (g_K123 G) rfl dX12_stood_7 ?_
    refine X_icmp_ge (tgt := 41) dX12_stood_10 (by decide) (fun c1 => ?_) (fun c1 => ?_)
    · replace hm := ip c1 hm
      exact he41 _ _ h1 hm
    · replace hm := iq c1 hm
      refine X_aload_n 0 dX12_stood_13 rfl rfl rfl ?_
      refine X_getPe fl_X12_92 (g_K123 G) rfl (g_P123_37 G) dX12_stood_14 ?_
      refine X_iload_n 2 dX12_stood_17 rfl rfl ?_
      obtain ⟨g2, hm⟩ := og hm
      refine X_baldJ (g_K150 G) g2 rfl dX12_stood_18 ?_
      refine X_bipush (v := (97 : Int32)) dX12_stood_19 (by decide) ?_
      refine X_icmp_lt (tgt := 41) dX12_stood_21 (by decide) (fun c3 => ?_) (fun c3 => ?_)
      · replace hm := ip c3 hm
        exact he41 _ _ h1 hm
      · replace hm := iq c3 hm
        refine X_aload_n 0 dX12_stood_24 rfl rfl rfl ?_
        refine X_getPe fl_X12_92 (g_K123 G) rfl (g_P123_37 G) dX12_stood_25 ?_
        refine X_iload_n 2 dX12_stood_28 rfl rfl ?_
        obtain ⟨g4, hm⟩ := og hm
        refine X_baldJ (g_K150 G) g4 rfl dX12_stood_29 ?_
        refine X_bipush (v := (122 : Int32)) dX12_stood_30 (by decide) ?_
        refine X_icmp_gt (tgt := 41) dX12_stood_32 (by decide) (fun c5 => ?_) (fun c5 => ?_)
        · replace hm := ip c5 hm
          exact he41 _ _ h1 hm
        · replace hm := iq c5 hm
          refine X_iinc (lv' := [(2, .int (a2 + 1)), (0, .ref 123), (1, .retAddr a1)]) 2 dX12_stood_35 rfl rfl (by decide) rfl ?_
          refine X_goto (tgt := 5) dX12_stood_38 (by decide) ?_
          exact X_lv [1, 2, 0] rfl (ih _ _ h1 hm)
def mX12_stood_63 (I : Nat → Nat → Int32)  : Nat → Nat → Int32 → Int32 → Option (Int32)
  | 0, _, _, _ => none
  | f + 1, a1, a3, a4 => (Option.bind (mJ0_length_8abf5 a1) (fun q10 => (if q10 ≤ a4 then (if a3 = 0 ∨ a3 = 1 then (some a3) else none) else (if a3 = 0 then (if a3 = 0 ∨ a3 = 1 then (some a3) else none) else (if inb ((I 123 28) + a4) 400 = true then (Option.bind (mJ0_charAt_5068e a1 a4) (fun q17 => (if (I 150 (ix ((I 123 28) + a4))) = q17 then (mX12_stood_63 I f a1 (1 : Int32) (a4 + 1)) else (mX12_stood_63 I f a1 (0 : Int32) (a4 + 1))))) else none)))))
set_option maxHeartbeats 400000 in
set_option maxRecDepth 100000 in
theorem kX12_stood_63 {E : xE} {B : Nat} {n : Nat} {K : Nat → Nat × Nat} {P : Nat → Nat → Nat} {I : Nat → Nat → Int32} {L : Nat → Nat → Int64}   {q : Int32} (d : Nat) (hd : 5 ≤ d) (G : GW K P)   : ∀ (f : Nat) (a1 : Nat) (a3 : Int32) (a4 : Int32), a1 < 24 → mX12_stood_63 I f a1 a3 a4 = some q → X E B d 0 0 yX12_stood cX12_stood 5 (some .boolean) (some (.int q), (n, K, P, I, L)) 63 [(0, .ref 123), (1, .retAddr a1), (3, .int a3), (4, .int a4)] [] 0 0 (n, K, P, I, L) := by
  obtain ⟨d, rfl⟩ : ∃ d0, d = d0 + 1 := ⟨d - 1, by omega⟩
  intro f
  induction f with
  | zero => intro _ _ _ _ hm; exact nomatch (show (none : Option (Int32)) = some q from hm)
  | succ f ih =>
    intro a1 a3 a4 h1 hm
    rw [mX12_stood_63] at hm
    refine X_iload 3 dX12_stood_63 rfl ?_
    refine X_aload_n 1 dX12_stood_65 rfl rfl rfl ?_
    obtain ⟨q10, e11, hm⟩ := ob hm
    refine X_cT1 (kJ0_length_8abf5 d (by omega) G h1 e11) ml_X12_213 mi_J0_length_8abf5 rfl h1 rfl rfl (Nat.le_refl _) ⟨Nat.le_refl _, Nat.le_refl _⟩ (Nat.le_of_ble_eq_true rfl) dX12_stood_66 ?_
    refine X_icmp_ge (tgt := 109) dX12_stood_69 (by decide) (fun c12 => ?_) (fun c12 => ?_)
    · replace hm := ip c12 hm
      refine X_iload_n 2 dX12_stood_109 rfl rfl ?_
      obtain ⟨g13, hm⟩ := og hm
      replace hm := Option.some.inj hm
      subst hm
      exact X_zret dX12_stood_110 rfl (x_nz g13)
    · replace hm := iq c12 hm
      refine X_iload_n 2 dX12_stood_72 rfl rfl ?_
      refine X_if_eq (tgt := 109) dX12_stood_73 (by decide) (fun c14 => ?_) (fun c14 => ?_)
      · replace hm := ip c14 hm
        refine X_iload_n 2 dX12_stood_109 rfl rfl ?_
        obtain ⟨g15, hm⟩ := og hm
        replace hm := Option.some.inj hm
        subst hm
        exact X_zret dX12_stood_110 rfl (x_nz g15)
      · replace hm := iq c14 hm
        refine X_aload_n 0 dX12_stood_76 rfl rfl rfl ?_
        refine X_getPe fl_X12_92 (g_K123 G) rfl (g_P123_37 G) dX12_stood_77 ?_
        refine X_aload_n 0 dX12_stood_80 rfl rfl rfl ?_
        refine X_getI fl_X12_202 (g_K123 G) rfl dX12_stood_81 ?_
        refine X_iload 3 dX12_stood_84 rfl ?_
        refine X_iadd dX12_stood_86 ?_
        obtain ⟨g16, hm⟩ := og hm
        refine X_baldJ (g_K150 G) g16 rfl dX12_stood_87 ?_
        refine X_aload_n 1 dX12_stood_88 rfl rfl rfl ?_
        refine X_iload 3 dX12_stood_89 rfl ?_
        obtain ⟨q17, e18, hm⟩ := ob hm
        refine X_cT1 (kJ0_charAt_5068e d (by omega) G h1 e18) ml_X12_218 mi_J0_charAt_5068e rfl h1 rfl rfl (Nat.le_refl _) ⟨Nat.le_refl _, Nat.le_refl _⟩ (Nat.le_of_ble_eq_true rfl) dX12_stood_91 ?_
        refine X_icmp_ne (tgt := 101) dX12_stood_94 (by decide) (fun c19 => ?_) (fun c19 => ?_)
        · replace hm := iq c19 hm
          refine X_iconst (v := (0 : Int32)) dX12_stood_101 (by decide) ?_
          refine X_istore_n (lv' := [(3, .int (0 : Int32)), (0, .ref 123), (1, .retAddr a1), (4, .int a4)]) dX12_stood_102 rfl (by decide) rfl ?_
          refine X_iinc (lv' := [(4, .int (a4 + 1)), (3, .int (0 : Int32)), (0, .ref 123), (1, .retAddr a1)]) 3 dX12_stood_103 rfl rfl (by decide) rfl ?_
          refine X_goto (tgt := 63) dX12_stood_106 (by decide) ?_
          exact X_lv [2, 3, 1, 0] rfl (ih _ _ _ h1 hm)
        · replace hm := ip c19 hm
          refine X_iconst (v := (1 : Int32)) dX12_stood_97 (by decide) ?_
          refine X_goto (tgt := 102) dX12_stood_98 (by decide) ?_
          refine X_istore_n (lv' := [(3, .int (1 : Int32)), (0, .ref 123), (1, .retAddr a1), (4, .int a4)]) dX12_stood_102 rfl (by decide) rfl ?_
          refine X_iinc (lv' := [(4, .int (a4 + 1)), (3, .int (1 : Int32)), (0, .ref 123), (1, .retAddr a1)]) 3 dX12_stood_103 rfl rfl (by decide) rfl ?_
          refine X_goto (tgt := 63) dX12_stood_106 (by decide) ?_
          exact X_lv [2, 3, 1, 0] rfl (ih _ _ _ h1 hm)
def mX12_stood_59 (I : Nat → Nat → Int32) (a1 : Nat) (t0 : Int32) : Option (Int32) := (mX12_stood_63 I xf a1 t0 (0 : Int32))
set_option maxHeartbeats 400000 in
set_option maxRecDepth 100000 in
theorem kX12_stood_59 {E : xE} {B : Nat} {n : Nat} {K : Nat → Nat × Nat} {P : Nat → Nat → Nat} {I : Nat → Nat → Int32} {L : Nat → Nat → Int64}   {a1 : Nat} {t0 : Int32} {q : Int32} (d : Nat) (hd : 5 ≤ d) (G : GW K P)   (h1 : a1 < 24) (hm : mX12_stood_59 I a1 t0 = some q) : X E B d 0 0 yX12_stood cX12_stood 5 (some .boolean) (some (.int q), (n, K, P, I, L)) 59 [(0, .ref 123), (1, .retAddr a1)] [.int t0] 0 0 (n, K, P, I, L) := by
  obtain ⟨d, rfl⟩ : ∃ d0, d = d0 + 1 := ⟨d - 1, by omega⟩
  unfold mX12_stood_59 at hm
  refine X_istore_n (lv' := [(3, .int t0), (0, .ref 123), (1, .retAddr a1)]) dX12_stood_59 rfl (by decide) rfl ?_
  refine X_iconst (v := (0 : Int32)) dX12_stood_60 (by decide) ?_
  refine X_istore (lv' := [(4, .int (0 : Int32)), (3, .int t0), (0, .ref 123), (1, .retAddr a1)]) dX12_stood_61 (by decide) rfl ?_
  refine X_lv [2, 3, 1, 0] rfl (kX12_stood_63 _ hd G xf _ _ _ h1 hm)
def mX12_stood_41 (I : Nat → Nat → Int32) (a1 : Nat) (a2 : Int32) : Option (Int32) := (Option.bind (mJ0_length_8abf5 a1) (fun q7 => (if (a2 - (I 123 28)) = q7 then (mX12_stood_59 I a1 (1 : Int32)) else (mX12_stood_59 I a1 (0 : Int32)))))
set_option maxHeartbeats 400000 in
set_option maxRecDepth 100000 in
theorem kX12_stood_41 {E : xE} {B : Nat} {n : Nat} {K : Nat → Nat × Nat} {P : Nat → Nat → Nat} {I : Nat → Nat → Int32} {L : Nat → Nat → Int64}   {a1 : Nat} {a2 : Int32} {q : Int32} (d : Nat) (hd : 5 ≤ d) (G : GW K P)   (h1 : a1 < 24) (hm : mX12_stood_41 I a1 a2 = some q) : X E B d 0 0 yX12_stood cX12_stood 5 (some .boolean) (some (.int q), (n, K, P, I, L)) 41 [(0, .ref 123), (1, .retAddr a1), (2, .int a2)] [] 0 0 (n, K, P, I, L) := by
  obtain ⟨d, rfl⟩ : ∃ d0, d = d0 + 1 := ⟨d - 1, by omega⟩
  unfold mX12_stood_41 at hm
  refine X_iload_n 2 dX12_stood_41 rfl rfl ?_
  refine X_aload_n 0 dX12_stood_42 rfl rfl rfl ?_
  refine X_getI fl_X12_202 (g_K123 G) rfl dX12_stood_43 ?_
  refine X_isub dX12_stood_46 ?_
  refine X_aload_n 1 dX12_stood_47 rfl rfl rfl ?_
  obtain ⟨q7, e8, hm⟩ := ob hm
  refine X_cT1 (kJ0_length_8abf5 d (by omega) G h1 e8) ml_X12_213 mi_J0_length_8abf5 rfl h1 rfl rfl (Nat.le_refl _) ⟨Nat.le_refl _, Nat.le_refl _⟩ (Nat.le_of_ble_eq_true rfl) dX12_stood_48 ?_
  refine X_icmp_ne (tgt := 58) dX12_stood_51 (by decide) (fun c9 => ?_) (fun c9 => ?_)
  · replace hm := iq c9 hm
    refine X_iconst (v := (0 : Int32)) dX12_stood_58 (by decide) ?_
    exact X_lv [0, 1] rfl (kX12_stood_59 _ hd G h1 hm)
  · replace hm := ip c9 hm
    refine X_iconst (v := (1 : Int32)) dX12_stood_54 (by decide) ?_
    refine X_goto (tgt := 59) dX12_stood_55 (by decide) ?_
    exact X_lv [0, 1] rfl (kX12_stood_59 _ hd G h1 hm)
def mX12_stood (I : Nat → Nat → Int32) (a1 : Nat) : Option (Int32) := (mX12_stood_5 I (fun (a1_6 : Nat) (a2_6 : Int32) => (mX12_stood_41 I a1_6 a2_6)) xf a1 (I 123 28))
set_option maxHeartbeats 400000 in
set_option maxRecDepth 100000 in
theorem kX12_stood {E : xE} {B : Nat} {n : Nat} {K : Nat → Nat × Nat} {P : Nat → Nat → Nat} {I : Nat → Nat → Int32} {L : Nat → Nat → Int64}  {a1 : Nat} {q : Int32} (d : Nat) (hd : 5 ≤ d) (G : GW K P)  (h1 : a1 < 24) (hm : mX12_stood I a1 = some q) : MX E B d 0 0 yX12_stood cX12_stood 5 (some .boolean) [.ref 123, .retAddr a1] (n, K, P, I, L) (some (.int q), (n, K, P, I, L)) := by
  refine MX_of (lv := [(0, .ref 123), (1, .retAddr a1)]) (by decide +kernel) (Nat.le_of_ble_eq_true rfl) rfl ?_
  obtain ⟨d, rfl⟩ : ∃ d0, d = d0 + 1 := ⟨d - 1, by omega⟩
  unfold mX12_stood at hm
  refine X_aload_n 0 dX12_stood_0 rfl rfl rfl ?_
  refine X_getI fl_X12_202 (g_K123 G) rfl dX12_stood_1 ?_
  refine X_istore_n (lv' := [(2, .int (I 123 28)), (0, .ref 123), (1, .retAddr a1)]) dX12_stood_4 rfl (by decide) rfl ?_
  refine X_lv [1, 2, 0] rfl (kX12_stood_5 _ hd G (fun a1_6 a2_6 h1_6 hm => ?_) xf _ _ h1 hm)
  exact kX12_stood_41 _ hd G h1_6 hm

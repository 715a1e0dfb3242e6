def mX11_ruled_33 (K : Nat → Nat × Nat) (P : Nat → Nat → Nat)  : Nat → (Nat → Nat → Int32) → (Nat → Nat → Int64) → Int32 → Int32 → Int32 → Int32 → Option (Int32 × (Nat → Nat → Int32) × (Nat → Nat → Int64))
  | 0, _, _, _, _, _, _ => none
  | f + 1, I, L, a1, a2, a3, a4 => (if (I 1 5) ≤ a4 then (if a1 = 0 then (some (a2, I, L)) else (some (a3, I, L))) else (Option.bind (mX11_fits K P I L a4 (-1 : Int32) (0 : Int32)) (fun q7 => (if q7.1 = 0 then (mX11_ruled_33 K P f q7.2.1 q7.2.2 a1 a2 a3 (a4 + 1)) else (if a2 = 0 then (mX11_ruled_33 K P f q7.2.1 q7.2.2 a1 (a2 + 1) a4 (a4 + 1)) else (mX11_ruled_33 K P f q7.2.1 q7.2.2 a1 (a2 + 1) a3 (a4 + 1)))))))
set_option maxHeartbeats 400000 in
set_option maxRecDepth 100000 in
theorem kX11_ruled_33 {E : xE} {B : Nat} {n : Nat} {K : Nat → Nat × Nat} {P : Nat → Nat → Nat}   {q : Int32 × (Nat → Nat → Int32) × (Nat → Nat → Int64)} (d : Nat) (hd : 7 ≤ d) (G : GW K P)   : ∀ (f : Nat) (I : Nat → Nat → Int32) (L : Nat → Nat → Int64) (a1 : Int32) (a2 : Int32) (a3 : Int32) (a4 : Int32), mX11_ruled_33 K P f I L a1 a2 a3 a4 = some q → X E B d 0 0 yX11_ruled cX11_ruled 5 (some .int) (some (.int q.1), (n, K, P, q.2.1, q.2.2)) 33 [(0, .ref 1), (1, .int a1), (2, .int a2), (3, .int a3), (4, .int a4)] [] 0 0 (n, K, P, I, L) := by
  obtain ⟨d, rfl⟩ : ∃ d0, d = d0 + 1 := ⟨d - 1, by omega⟩
  intro f
  induction f with
  | zero => intro _ _ _ _ _ _ hm; exact nomatch (show (none : Option (Int32 × (Nat → Nat → Int32) × (Nat → Nat → Int64))) = some q from hm)
  | succ f ih =>
    intro I L a1 a2 a3 a4 hm
    rw [mX11_ruled_33] at hm
    refine X_iload 4 dX11_ruled_33 rfl ?_
    refine X_aload_n 0 dX11_ruled_35 rfl rfl rfl ?_
    refine X_getI fl_X11_88 (g_K1 G) rfl dX11_ruled_36 ?_
    refine X_icmp_ge (tgt := 73) dX11_ruled_39 (by decide) (fun c5 => ?_) (fun c5 => ?_)
    · replace hm := ip c5 hm
      refine X_iload_n 1 dX11_ruled_73 rfl rfl ?_
      refine X_if_ne (tgt := 81) dX11_ruled_74 (by decide) (fun c6 => ?_) (fun c6 => ?_)
      · replace hm := iq c6 hm
        refine X_iload_n 3 dX11_ruled_81 rfl rfl ?_
        replace hm := Option.some.inj hm
        subst hm
        exact X_iret dX11_ruled_82 rfl
      · replace hm := ip c6 hm
        refine X_iload_n 2 dX11_ruled_77 rfl rfl ?_
        refine X_goto (tgt := 82) dX11_ruled_78 (by decide) ?_
        replace hm := Option.some.inj hm
        subst hm
        exact X_iret dX11_ruled_82 rfl
    · replace hm := iq c5 hm
      refine X_aload_n 0 dX11_ruled_42 rfl rfl rfl ?_
      refine X_iload 4 dX11_ruled_43 rfl ?_
      refine X_iconst (v := (-1 : Int32)) dX11_ruled_45 (by decide) ?_
      refine X_iconst (v := (0 : Int32)) dX11_ruled_46 (by decide) ?_
      obtain ⟨q7, e8, hm⟩ := ob hm
      refine X_cV1 (ci := 10) (kX11_fits d (by omega) G e8) ml_X11_383 mi_X11_fits rfl cf_10 (g_K1 G) rfl rfl (Nat.le_refl _) ⟨Nat.le_refl _, Nat.le_refl _⟩ (Nat.le_of_ble_eq_true rfl) dX11_ruled_47 ?_
      refine X_if_eq (tgt := 67) dX11_ruled_50 (by decide) (fun c9 => ?_) (fun c9 => ?_)
      · replace hm := ip c9 hm
        refine X_iinc (lv' := [(4, .int (a4 + 1)), (0, .ref 1), (1, .int a1), (2, .int a2), (3, .int a3)]) 4 dX11_ruled_67 rfl rfl (by decide) rfl ?_
        refine X_goto (tgt := 33) dX11_ruled_70 (by decide) ?_
        exact X_lv [1, 2, 3, 4, 0] rfl (ih _ _ _ _ _ _ hm)
      · replace hm := iq c9 hm
        refine X_iload_n 2 dX11_ruled_53 rfl rfl ?_
        refine X_if_ne (tgt := 62) dX11_ruled_54 (by decide) (fun c10 => ?_) (fun c10 => ?_)
        · replace hm := iq c10 hm
          refine X_iload_n 3 dX11_ruled_62 rfl rfl ?_
          refine X_istore_n (lv' := [(3, .int a3), (0, .ref 1), (1, .int a1), (2, .int a2), (4, .int a4)]) dX11_ruled_63 rfl (by decide) rfl ?_
          refine X_iinc (lv' := [(2, .int (a2 + 1)), (3, .int a3), (0, .ref 1), (1, .int a1), (4, .int a4)]) 3 dX11_ruled_64 rfl rfl (by decide) rfl ?_
          refine X_iinc (lv' := [(4, .int (a4 + 1)), (2, .int (a2 + 1)), (3, .int a3), (0, .ref 1), (1, .int a1)]) 4 dX11_ruled_67 rfl rfl (by decide) rfl ?_
          refine X_goto (tgt := 33) dX11_ruled_70 (by decide) ?_
          exact X_lv [3, 4, 1, 2, 0] rfl (ih _ _ _ _ _ _ hm)
        · replace hm := ip c10 hm
          refine X_iload 4 dX11_ruled_57 rfl ?_
          refine X_goto (tgt := 63) dX11_ruled_59 (by decide) ?_
          refine X_istore_n (lv' := [(3, .int a4), (0, .ref 1), (1, .int a1), (2, .int a2), (4, .int a4)]) dX11_ruled_63 rfl (by decide) rfl ?_
          refine X_iinc (lv' := [(2, .int (a2 + 1)), (3, .int a4), (0, .ref 1), (1, .int a1), (4, .int a4)]) 3 dX11_ruled_64 rfl rfl (by decide) rfl ?_
          refine X_iinc (lv' := [(4, .int (a4 + 1)), (2, .int (a2 + 1)), (3, .int a4), (0, .ref 1), (1, .int a1)]) 4 dX11_ruled_67 rfl rfl (by decide) rfl ?_
          refine X_goto (tgt := 33) dX11_ruled_70 (by decide) ?_
          exact X_lv [3, 4, 1, 2, 0] rfl (ih _ _ _ _ _ _ hm)
def mX11_ruled (K : Nat → Nat × Nat) (P : Nat → Nat → Nat) (I : Nat → Nat → Int32) (L : Nat → Nat → Int64) (a1 : Int32) : Option (Int32 × (Nat → Nat → Int32) × (Nat → Nat → Int64)) := (if (I (P 12 0) 0) = 0 then (some ((-3 : Int32), I, L)) else (Option.bind (mX11_isWithin a1 (0 : Int32) (1 : Int32)) (fun q2 => (if q2 = 0 then (some ((-3 : Int32), I, L)) else (mX11_ruled_33 K P xf I L a1 (0 : Int32) (-2 : Int32) (-1 : Int32))))))
set_option maxHeartbeats 400000 in
set_option maxRecDepth 100000 in
theorem kX11_ruled {E : xE} {B : Nat} {n : Nat} {K : Nat → Nat × Nat} {P : Nat → Nat → Nat} {I : Nat → Nat → Int32} {L : Nat → Nat → Int64}  {a1 : Int32} {q : Int32 × (Nat → Nat → Int32) × (Nat → Nat → Int64)} (d : Nat) (hd : 7 ≤ d) (G : GW K P)   (hm : mX11_ruled K P I L a1 = some q) : MX E B d 0 0 yX11_ruled cX11_ruled 5 (some .int) [.ref 1, .int a1] (n, K, P, I, L) (some (.int q.1), (n, K, P, q.2.1, q.2.2)) := by
  refine MX_of (lv := [(0, .ref 1), (1, .int a1)]) (by decide +kernel) (Nat.le_of_ble_eq_true rfl) rfl ?_
  obtain ⟨d, rfl⟩ : ∃ d0, d = d0 + 1 := ⟨d - 1, by omega⟩
  unfold mX11_ruled at hm
  refine X_aload_n 0 dX11_ruled_0 rfl rfl rfl ?_
  refine X_getPe fl_X11_38 (g_K1 G) rfl (g_P1_6 G) dX11_ruled_1 ?_
  refine X_getP fl_X11_116 (g_K12 G) rfl dX11_ruled_4 ?_
  refine X_getI fl_X11_219 (gl9_st G (g_K12 G)) rfl dX11_ruled_7 ?_
  refine X_if_eq (tgt := 22) dX11_ruled_10 (by decide) (fun c1 => ?_) (fun c1 => ?_)
  · replace hm := ip c1 hm
    refine X_bipush (v := (-3 : Int32)) dX11_ruled_22 (by decide) ?_
    replace hm := Option.some.inj hm
    subst hm
    exact X_iret dX11_ruled_24 rfl
  · replace hm := iq c1 hm
    refine X_iload_n 1 dX11_ruled_13 rfl rfl ?_
    refine X_iconst (v := (0 : Int32)) dX11_ruled_14 (by decide) ?_
    refine X_iconst (v := (1 : Int32)) dX11_ruled_15 (by decide) ?_
    obtain ⟨q2, e3, hm⟩ := ob hm
    refine X_cS1 (kX11_isWithin d (by omega) G e3) ml_X11_285 ms_X11_isWithin rfl rfl (Nat.le_refl _) ⟨Nat.le_refl _, Nat.le_refl _⟩ (Nat.le_of_ble_eq_true rfl) dX11_ruled_16 ?_
    refine X_if_ne (tgt := 25) dX11_ruled_19 (by decide) (fun c4 => ?_) (fun c4 => ?_)
    · replace hm := iq c4 hm
      refine X_iconst (v := (0 : Int32)) dX11_ruled_25 (by decide) ?_
      refine X_istore_n (lv' := [(2, .int (0 : Int32)), (0, .ref 1), (1, .int a1)]) dX11_ruled_26 rfl (by decide) rfl ?_
      refine X_bipush (v := (-2 : Int32)) dX11_ruled_27 (by decide) ?_
      refine X_istore_n (lv' := [(3, .int (-2 : Int32)), (2, .int (0 : Int32)), (0, .ref 1), (1, .int a1)]) dX11_ruled_29 rfl (by decide) rfl ?_
      refine X_iconst (v := (-1 : Int32)) dX11_ruled_30 (by decide) ?_
      refine X_istore (lv' := [(4, .int (-1 : Int32)), (3, .int (-2 : Int32)), (2, .int (0 : Int32)), (0, .ref 1), (1, .int a1)]) dX11_ruled_31 (by decide) rfl ?_
      refine X_lv [3, 4, 2, 1, 0] rfl (kX11_ruled_33 _ hd G xf _ _ _ _ _ _  hm)
    · replace hm := ip c4 hm
      refine X_bipush (v := (-3 : Int32)) dX11_ruled_22 (by decide) ?_
      replace hm := Option.some.inj hm
      subst hm
      exact X_iret dX11_ruled_24 rfl
def mX11_mostAlike_17 (I : Nat → Nat → Int32) (e57 : Int32 → Int32 → Int32 → Int32 → Int32 → Option (Int32)) : Nat → Int32 → Int32 → Int32 → Int32 → Int32 → Int32 → Option (Int32)
  | 0, _, _, _, _, _, _ => none
  | f + 1, a1, a2, a3, a4, a5, a6 => (if a2 ≤ a6 then (e57 a1 a2 a3 a4 a5) else (if inb ((a6 * (4 : Int32)) + a1) 28 = true then (if inb ((a4 * (4 : Int32)) + a1) 28 = true then (if (I 122 (ix ((a6 * (4 : Int32)) + a1))) = (I 122 (ix ((a4 * (4 : Int32)) + a1))) then (mX11_mostAlike_17 I e57 f a1 a2 a3 a4 (a5 + 1) (a6 + 1)) else (mX11_mostAlike_17 I e57 f a1 a2 a3 a4 a5 (a6 + 1))) else none) else none))
set_option maxHeartbeats 400000 in
set_option maxRecDepth 100000 in
theorem kX11_mostAlike_17 {E : xE} {B : Nat} {n : Nat} {K : Nat → Nat × Nat} {P : Nat → Nat → Nat} {I : Nat → Nat → Int32} {L : Nat → Nat → Int64}  {e57 : Int32 → Int32 → Int32 → Int32 → Int32 → Option (Int32)} {q : Int32} (d : Nat) (hd : 1 ≤ d) (G : GW K P)  (he57 : ∀ (a1 : Int32) (a2 : Int32) (a3 : Int32) (a4 : Int32) (a5 : Int32), e57 a1 a2 a3 a4 a5 = some q → X E B d 0 0 yX11_mostAlike cX11_mostAlike 7 (some .int) (some (.int q), (n, K, P, I, L)) 57 [(0, .ref 1), (1, .int a1), (2, .int a2), (3, .int a3), (4, .int a4), (5, .int a5)] [] 0 0 (n, K, P, I, L)) : ∀ (f : Nat) (a1 : Int32) (a2 : Int32) (a3 : Int32) (a4 : Int32) (a5 : Int32) (a6 : Int32), mX11_mostAlike_17 I e57 f a1 a2 a3 a4 a5 a6 = some q → X E B d 0 0 yX11_mostAlike cX11_mostAlike 7 (some .int) (some (.int q), (n, K, P, I, L)) 17 [(0, .ref 1), (1, .int a1), (2, .int a2), (3, .int a3), (4, .int a4), (5, .int a5), (6, .int a6)] [] 0 0 (n, K, P, I, L) := by
  obtain ⟨d, rfl⟩ : ∃ d0, d = d0 + 1 := ⟨d - 1, by omega⟩
  intro f
  induction f with
  | zero => intro _ _ _ _ _ _ hm; exact nomatch (show (none : Option (Int32)) = some q from hm)
  | succ f ih =>
    intro a1 a2 a3 a4 a5 a6 hm
    rw [mX11_mostAlike_17] at hm
    refine X_iload 6 dX11_mostAlike_17 rfl ?_
    refine X_iload_n 2 dX11_mostAlike_19 rfl rfl ?_
    refine X_icmp_ge (tgt := 57) dX11_mostAlike_20 (by decide) (fun c2 => ?_) (fun c2 => ?_)
    · replace hm := ip c2 hm
      exact X_lv [0, 1, 2, 3, 4, 5] rfl (he57 _ _ _ _ _ hm)
    · replace hm := iq c2 hm
      refine X_aload_n 0 dX11_mostAlike_23 rfl rfl rfl ?_
      refine X_getPe fl_X11_81 (g_K1 G) rfl (g_P1_14 G) dX11_mostAlike_24 ?_
      refine X_iload 6 dX11_mostAlike_27 rfl ?_
      refine X_iconst (v := (4 : Int32)) dX11_mostAlike_29 (by decide) ?_
      refine X_imul dX11_mostAlike_30 ?_
      refine X_iload_n 1 dX11_mostAlike_31 rfl rfl ?_
      refine X_iadd dX11_mostAlike_32 ?_
      obtain ⟨g3, hm⟩ := og hm
      refine X_ialdJ (g_K122 G) g3 rfl dX11_mostAlike_33 ?_
      refine X_aload_n 0 dX11_mostAlike_34 rfl rfl rfl ?_
      refine X_getPe fl_X11_81 (g_K1 G) rfl (g_P1_14 G) dX11_mostAlike_35 ?_
      refine X_iload 4 dX11_mostAlike_38 rfl ?_
      refine X_iconst (v := (4 : Int32)) dX11_mostAlike_40 (by decide) ?_
      refine X_imul dX11_mostAlike_41 ?_
      refine X_iload_n 1 dX11_mostAlike_42 rfl rfl ?_
      refine X_iadd dX11_mostAlike_43 ?_
      obtain ⟨g4, hm⟩ := og hm
      refine X_ialdJ (g_K122 G) g4 rfl dX11_mostAlike_44 ?_
      refine X_icmp_ne (tgt := 51) dX11_mostAlike_45 (by decide) (fun c5 => ?_) (fun c5 => ?_)
      · replace hm := iq c5 hm
        refine X_iinc (lv' := [(6, .int (a6 + 1)), (0, .ref 1), (1, .int a1), (2, .int a2), (3, .int a3), (4, .int a4), (5, .int a5)]) 6 dX11_mostAlike_51 rfl rfl (by decide) rfl ?_
        refine X_goto (tgt := 17) dX11_mostAlike_54 (by decide) ?_
        exact X_lv [1, 2, 3, 4, 5, 6, 0] rfl (ih _ _ _ _ _ _ hm)
      · replace hm := ip c5 hm
        refine X_iinc (lv' := [(5, .int (a5 + 1)), (0, .ref 1), (1, .int a1), (2, .int a2), (3, .int a3), (4, .int a4), (6, .int a6)]) 5 dX11_mostAlike_48 rfl rfl (by decide) rfl ?_
        refine X_iinc (lv' := [(6, .int (a6 + 1)), (5, .int (a5 + 1)), (0, .ref 1), (1, .int a1), (2, .int a2), (3, .int a3), (4, .int a4)]) 6 dX11_mostAlike_51 rfl rfl (by decide) rfl ?_
        refine X_goto (tgt := 17) dX11_mostAlike_54 (by decide) ?_
        exact X_lv [2, 3, 4, 5, 6, 1, 0] rfl (ih _ _ _ _ _ _ hm)
def mX11_mostAlike_5 (I : Nat → Nat → Int32)  : Nat → Int32 → Int32 → Int32 → Int32 → Option (Int32)
  | 0, _, _, _, _ => none
  | f + 1, a1, a2, a3, a4 => (if a2 ≤ a4 then (some a3) else (mX11_mostAlike_17 I (fun (a1_6 : Int32) (a2_6 : Int32) (a3_6 : Int32) (a4_6 : Int32) (a5_6 : Int32) => (Option.bind (mJ9_max_7cf53 a3_6 a5_6) (fun q7 => (mX11_mostAlike_5 I f a1_6 a2_6 q7 (a4_6 + 1))))) xf a1 a2 a3 a4 (0 : Int32) (0 : Int32)))
set_option maxHeartbeats 400000 in
set_option maxRecDepth 100000 in
theorem kX11_mostAlike_5 {E : xE} {B : Nat} {n : Nat} {K : Nat → Nat × Nat} {P : Nat → Nat → Nat} {I : Nat → Nat → Int32} {L : Nat → Nat → Int64}   {q : Int32} (d : Nat) (hd : 1 ≤ d) (G : GW K P)   : ∀ (f : Nat) (a1 : Int32) (a2 : Int32) (a3 : Int32) (a4 : Int32), mX11_mostAlike_5 I f a1 a2 a3 a4 = some q → X E B d 0 0 yX11_mostAlike cX11_mostAlike 7 (some .int) (some (.int q), (n, K, P, I, L)) 5 [(0, .ref 1), (1, .int a1), (2, .int a2), (3, .int a3), (4, .int a4)] [] 0 0 (n, K, P, I, L) := by
  obtain ⟨d, rfl⟩ : ∃ d0, d = d0 + 1 := ⟨d - 1, by omega⟩
  intro f
  induction f with
  | zero => intro _ _ _ _ hm; exact nomatch (show (none : Option (Int32)) = some q from hm)
  | succ f ih =>
    intro a1 a2 a3 a4 hm
    rw [mX11_mostAlike_5] at hm
    refine X_iload 4 dX11_mostAlike_5 rfl ?_
    refine X_iload_n 2 dX11_mostAlike_7 rfl rfl ?_
    refine X_icmp_ge (tgt := 70) dX11_mostAlike_8 (by decide) (fun c1 => ?_) (fun c1 => ?_)
    · replace hm := ip c1 hm
      refine X_iload_n 3 dX11_mostAlike_70 rfl rfl ?_
      replace hm := Option.some.inj hm
      subst hm
      exact X_iret dX11_mostAlike_71 rfl
    · replace hm := iq c1 hm
      refine X_iconst (v := (0 : Int32)) dX11_mostAlike_11 (by decide) ?_
      refine X_istore (lv' := [(5, .int (0 : Int32)), (0, .ref 1), (1, .int a1), (2, .int a2), (3, .int a3), (4, .int a4)]) dX11_mostAlike_12 (by decide) rfl ?_
      refine X_iconst (v := (0 : Int32)) dX11_mostAlike_14 (by decide) ?_
      refine X_istore (lv' := [(6, .int (0 : Int32)), (5, .int (0 : Int32)), (0, .ref 1), (1, .int a1), (2, .int a2), (3, .int a3), (4, .int a4)]) dX11_mostAlike_15 (by decide) rfl ?_
      refine X_lv [2, 3, 4, 5, 6, 1, 0] rfl (kX11_mostAlike_17 _ hd G (fun a1_6 a2_6 a3_6 a4_6 a5_6 hm => ?_) xf _ _ _ _ _ _  hm)
      refine X_iload_n 3 dX11_mostAlike_57 rfl rfl ?_
      refine X_iload 5 dX11_mostAlike_58 rfl ?_
      obtain ⟨q7, e8, hm⟩ := ob hm
      refine X_cS1 (kJ9_max_7cf53 d (by omega) G e8) ml_X11_392 ms_J9_max_7cf53 rfl rfl (Nat.le_refl _) ⟨Nat.le_refl _, Nat.le_refl _⟩ (Nat.le_of_ble_eq_true rfl) dX11_mostAlike_60 ?_
      refine X_istore_n (lv' := [(3, .int q7), (0, .ref 1), (1, .int a1_6), (2, .int a2_6), (4, .int a4_6), (5, .int a5_6)]) dX11_mostAlike_63 rfl (by decide) rfl ?_
      refine X_iinc (lv' := [(4, .int (a4_6 + 1)), (3, .int q7), (0, .ref 1), (1, .int a1_6), (2, .int a2_6), (5, .int a5_6)]) 4 dX11_mostAlike_64 rfl rfl (by decide) rfl ?_
      refine X_goto (tgt := 5) dX11_mostAlike_67 (by decide) ?_
      exact X_lv [2, 3, 4, 1, 0] rfl (ih _ _ _ _ hm)
def mX11_mostAlike (I : Nat → Nat → Int32) (a1 : Int32) (a2 : Int32) : Option (Int32) := (mX11_mostAlike_5 I xf a1 a2 (0 : Int32) (0 : Int32))
set_option maxHeartbeats 400000 in
set_option maxRecDepth 100000 in
theorem kX11_mostAlike {E : xE} {B : Nat} {n : Nat} {K : Nat → Nat × Nat} {P : Nat → Nat → Nat} {I : Nat → Nat → Int32} {L : Nat → Nat → Int64}  {a1 : Int32} {a2 : Int32} {q : Int32} (d : Nat) (hd : 1 ≤ d) (G : GW K P)   (hm : mX11_mostAlike I a1 a2 = some q) : MX E B d 0 0 yX11_mostAlike cX11_mostAlike 7 (some .int) [.ref 1, .int a1, .int a2] (n, K, P, I, L) (some (.int q), (n, K, P, I, L)) := by
  refine MX_of (lv := [(0, .ref 1), (1, .int a1), (2, .int a2)]) (by decide +kernel) (Nat.le_of_ble_eq_true rfl) rfl ?_
  obtain ⟨d, rfl⟩ : ∃ d0, d = d0 + 1 := ⟨d - 1, by omega⟩
  unfold mX11_mostAlike at hm
  refine X_iconst (v := (0 : Int32)) dX11_mostAlike_0 (by decide) ?_
  refine X_istore_n (lv' := [(3, .int (0 : Int32)), (0, .ref 1), (1, .int a1), (2, .int a2)]) dX11_mostAlike_1 rfl (by decide) rfl ?_
  refine X_iconst (v := (0 : Int32)) dX11_mostAlike_2 (by decide) ?_
  refine X_istore (lv' := [(4, .int (0 : Int32)), (3, .int (0 : Int32)), (0, .ref 1), (1, .int a1), (2, .int a2)]) dX11_mostAlike_3 (by decide) rfl ?_
  refine X_lv [2, 3, 4, 1, 0] rfl (kX11_mostAlike_5 _ hd G xf _ _ _ _  hm)
def mX11_look_39 (K : Nat → Nat × Nat) (P : Nat → Nat → Nat) (e68 : (Nat → Nat → Int32) → (Nat → Nat → Int64) → Int32 → Int32 → Option (Int32 × (Nat → Nat → Int32) × (Nat → Nat → Int64))) : Nat → (Nat → Nat → Int32) → (Nat → Nat → Int64) → Int32 → Int32 → Int32 → Int32 → Option (Int32 × (Nat → Nat → Int32) × (Nat → Nat → Int64))
  | 0, _, _, _, _, _, _ => none
  | f + 1, I, L, a1, a2, a3, a4 => (if (I 1 5) ≤ a4 then (e68 I L a2 a3) else (Option.bind (mX11_fits K P I L a4 a1 a3) (fun q9 => (if q9.1 = 0 then (mX11_look_39 K P e68 f q9.2.1 q9.2.2 a1 a2 a3 (a4 + 1)) else (mX11_look_39 K P e68 f q9.2.1 q9.2.2 a1 a2 (a3 + 1) (a4 + 1))))))
set_option maxHeartbeats 400000 in
set_option maxRecDepth 100000 in
theorem kX11_look_39 {E : xE} {B : Nat} {n : Nat} {K : Nat → Nat × Nat} {P : Nat → Nat → Nat}  {e68 : (Nat → Nat → Int32) → (Nat → Nat → Int64) → Int32 → Int32 → Option (Int32 × (Nat → Nat → Int32) × (Nat → Nat → Int64))} {q : Int32 × (Nat → Nat → Int32) × (Nat → Nat → Int64)} (d : Nat) (hd : 7 ≤ d) (G : GW K P)  (he68 : ∀ (I : Nat → Nat → Int32) (L : Nat → Nat → Int64) (a2 : Int32) (a3 : Int32), e68 I L a2 a3 = some q → X E B d 0 0 yX11_look cX11_look 8 (some .int) (some (.int q.1), (n, K, P, q.2.1, q.2.2)) 68 [(0, .ref 1), (2, .int a2), (3, .int a3)] [] 0 0 (n, K, P, I, L)) : ∀ (f : Nat) (I : Nat → Nat → Int32) (L : Nat → Nat → Int64) (a1 : Int32) (a2 : Int32) (a3 : Int32) (a4 : Int32), mX11_look_39 K P e68 f I L a1 a2 a3 a4 = some q → X E B d 0 0 yX11_look cX11_look 8 (some .int) (some (.int q.1), (n, K, P, q.2.1, q.2.2)) 39 [(0, .ref 1), (1, .int a1), (2, .int a2), (3, .int a3), (4, .int a4)] [] 0 0 (n, K, P, I, L) := by
  obtain ⟨d, rfl⟩ : ∃ d0, d = d0 + 1 := ⟨d - 1, by omega⟩
  intro f
  induction f with
  | zero => intro _ _ _ _ _ _ hm; exact nomatch (show (none : Option (Int32 × (Nat → Nat → Int32) × (Nat → Nat → Int64))) = some q from hm)
  | succ f ih =>
    intro I L a1 a2 a3 a4 hm
    rw [mX11_look_39] at hm
    refine X_iload 4 dX11_look_39 rfl ?_
    refine X_aload_n 0 dX11_look_41 rfl rfl rfl ?_
    refine X_getI fl_X11_88 (g_K1 G) rfl dX11_look_42 ?_
    refine X_icmp_ge (tgt := 68) dX11_look_45 (by decide) (fun c8 => ?_) (fun c8 => ?_)
    · replace hm := ip c8 hm
      exact X_lv [0, 2, 3] rfl (he68 _ _ _ _ hm)
    · replace hm := iq c8 hm
      refine X_aload_n 0 dX11_look_48 rfl rfl rfl ?_
      refine X_iload 4 dX11_look_49 rfl ?_
      refine X_iload_n 1 dX11_look_51 rfl rfl ?_
      refine X_iload_n 3 dX11_look_52 rfl rfl ?_
      obtain ⟨q9, e10, hm⟩ := ob hm
      refine X_cV1 (ci := 10) (kX11_fits d (by omega) G e10) ml_X11_383 mi_X11_fits rfl cf_10 (g_K1 G) rfl rfl (Nat.le_refl _) ⟨Nat.le_refl _, Nat.le_refl _⟩ (Nat.le_of_ble_eq_true rfl) dX11_look_53 ?_
      refine X_if_eq (tgt := 62) dX11_look_56 (by decide) (fun c11 => ?_) (fun c11 => ?_)
      · replace hm := ip c11 hm
        refine X_iinc (lv' := [(4, .int (a4 + 1)), (0, .ref 1), (1, .int a1), (2, .int a2), (3, .int a3)]) 4 dX11_look_62 rfl rfl (by decide) rfl ?_
        refine X_goto (tgt := 39) dX11_look_65 (by decide) ?_
        exact X_lv [1, 2, 3, 4, 0] rfl (ih _ _ _ _ _ _ hm)
      · replace hm := iq c11 hm
        refine X_iinc (lv' := [(3, .int (a3 + 1)), (0, .ref 1), (1, .int a1), (2, .int a2), (4, .int a4)]) 3 dX11_look_59 rfl rfl (by decide) rfl ?_
        refine X_iinc (lv' := [(4, .int (a4 + 1)), (3, .int (a3 + 1)), (0, .ref 1), (1, .int a1), (2, .int a2)]) 4 dX11_look_62 rfl rfl (by decide) rfl ?_
        refine X_goto (tgt := 39) dX11_look_65 (by decide) ?_
        exact X_lv [2, 3, 4, 1, 0] rfl (ih _ _ _ _ _ _ hm)
def mX11_look_86 (K : Nat → Nat × Nat) (P : Nat → Nat → Nat)  : Nat → (Nat → Nat → Int32) → (Nat → Nat → Int64) → Int32 → Int32 → Int32 → Int32 → Int32 → Option (Int32 × (Nat → Nat → Int32) × (Nat → Nat → Int64))
  | 0, _, _, _, _, _, _, _ => none
  | f + 1, I, L, a2, a3, a4, a5, a6 => (if (I (P 12 0) 5) ≤ a6 then (if a4 = (-2 : Int32) then (some (a4, I, L)) else (if a2 = 0 then (some (a4, I, L)) else (some (a5, I, L)))) else (Option.bind (mX11_mostAlike I a6 a3) (fun q17 => (if a5 ≤ q17 then (mX11_look_86 K P f I L a2 a3 a4 a5 (a6 + 1)) else (mX11_look_86 K P f I L a2 a3 a6 q17 (a6 + 1))))))
set_option maxHeartbeats 400000 in
set_option maxRecDepth 100000 in
theorem kX11_look_86 {E : xE} {B : Nat} {n : Nat} {K : Nat → Nat × Nat} {P : Nat → Nat → Nat}   {q : Int32 × (Nat → Nat → Int32) × (Nat → Nat → Int64)} (d : Nat) (hd : 7 ≤ d) (G : GW K P)   : ∀ (f : Nat) (I : Nat → Nat → Int32) (L : Nat → Nat → Int64) (a2 : Int32) (a3 : Int32) (a4 : Int32) (a5 : Int32) (a6 : Int32), mX11_look_86 K P f I L a2 a3 a4 a5 a6 = some q → X E B d 0 0 yX11_look cX11_look 8 (some .int) (some (.int q.1), (n, K, P, q.2.1, q.2.2)) 86 [(0, .ref 1), (2, .int a2), (3, .int a3), (4, .int a4), (5, .int a5), (6, .int a6)] [] 0 0 (n, K, P, I, L) := by
  obtain ⟨d, rfl⟩ : ∃ d0, d = d0 + 1 := ⟨d - 1, by omega⟩
  intro f
  induction f with
  | zero => intro _ _ _ _ _ _ _ hm; exact nomatch (show (none : Option (Int32 × (Nat → Nat → Int32) × (Nat → Nat → Int64))) = some q from hm)
  | succ f ih =>
    intro I L a2 a3 a4 a5 a6 hm
    rw [mX11_look_86] at hm
    refine X_iload 5 dX11_look_86 rfl ?_
    refine X_aload_n 0 dX11_look_88 rfl rfl rfl ?_
    refine X_getPe fl_X11_38 (g_K1 G) rfl (g_P1_6 G) dX11_look_89 ?_
    refine X_getP fl_X11_116 (g_K12 G) rfl dX11_look_92 ?_
    refine X_getI fl_X11_136 (gl9_st G (g_K12 G)) rfl dX11_look_95 ?_
    refine X_icmp_ge (tgt := 131) dX11_look_98 (by decide) (fun c14 => ?_) (fun c14 => ?_)
    · replace hm := ip c14 hm
      refine X_iload 3 dX11_look_131 rfl ?_
      refine X_bipush (v := (-2 : Int32)) dX11_look_133 (by decide) ?_
      refine X_icmp_eq (tgt := 142) dX11_look_135 (by decide) (fun c15 => ?_) (fun c15 => ?_)
      · replace hm := ip c15 hm
        refine X_iload 3 dX11_look_142 rfl ?_
        refine X_goto (tgt := 149) dX11_look_144 (by decide) ?_
        replace hm := Option.some.inj hm
        subst hm
        exact X_iret dX11_look_149 rfl
      · replace hm := iq c15 hm
        refine X_iload_n 1 dX11_look_138 rfl rfl ?_
        refine X_if_ne (tgt := 147) dX11_look_139 (by decide) (fun c16 => ?_) (fun c16 => ?_)
        · replace hm := iq c16 hm
          refine X_iload 4 dX11_look_147 rfl ?_
          replace hm := Option.some.inj hm
          subst hm
          exact X_iret dX11_look_149 rfl
        · replace hm := ip c16 hm
          refine X_iload 3 dX11_look_142 rfl ?_
          refine X_goto (tgt := 149) dX11_look_144 (by decide) ?_
          replace hm := Option.some.inj hm
          subst hm
          exact X_iret dX11_look_149 rfl
    · replace hm := iq c14 hm
      refine X_aload_n 0 dX11_look_101 rfl rfl rfl ?_
      refine X_iload 5 dX11_look_102 rfl ?_
      refine X_iload_n 2 dX11_look_104 rfl rfl ?_
      obtain ⟨q17, e18, hm⟩ := ob hm
      refine X_cV1 (ci := 10) (kX11_mostAlike d (by omega) G e18) ml_X11_386 mi_X11_mostAlike rfl cf_10 (g_K1 G) rfl rfl (Nat.le_refl _) ⟨Nat.le_refl _, Nat.le_refl _⟩ (Nat.le_of_ble_eq_true rfl) dX11_look_105 ?_
      refine X_istore (lv' := [(7, .int q17), (0, .ref 1), (2, .int a2), (3, .int a3), (4, .int a4), (5, .int a5), (6, .int a6)]) dX11_look_108 (by decide) rfl ?_
      refine X_iload 0 dX11_look_110 rfl ?_
      refine X_iload 5 dX11_look_112 rfl ?_
      refine X_icmp_ge (tgt := 125) dX11_look_114 (by decide) (fun c19 => ?_) (fun c19 => ?_)
      · replace hm := ip c19 hm
        refine X_iinc (lv' := [(6, .int (a6 + 1)), (7, .int q17), (0, .ref 1), (2, .int a2), (3, .int a3), (4, .int a4), (5, .int a5)]) 6 dX11_look_125 rfl rfl (by decide) rfl ?_
        refine X_goto (tgt := 86) dX11_look_128 (by decide) ?_
        exact X_lv [2, 3, 4, 5, 6, 0] rfl (ih _ _ _ _ _ _ _ hm)
      · replace hm := iq c19 hm
        refine X_iload 0 dX11_look_117 rfl ?_
        refine X_istore (lv' := [(5, .int q17), (7, .int q17), (0, .ref 1), (2, .int a2), (3, .int a3), (4, .int a4), (6, .int a6)]) dX11_look_119 (by decide) rfl ?_
        refine X_iload 6 dX11_look_121 rfl ?_
        refine X_istore (lv' := [(4, .int a6), (5, .int q17), (7, .int q17), (0, .ref 1), (2, .int a2), (3, .int a3), (6, .int a6)]) dX11_look_123 (by decide) rfl ?_
        refine X_iinc (lv' := [(6, .int (a6 + 1)), (4, .int a6), (5, .int q17), (7, .int q17), (0, .ref 1), (2, .int a2), (3, .int a3)]) 6 dX11_look_125 rfl rfl (by decide) rfl ?_
        refine X_goto (tgt := 86) dX11_look_128 (by decide) ?_
        exact X_lv [4, 5, 6, 1, 2, 0] rfl (ih _ _ _ _ _ _ _ hm)
def mX11_look (K : Nat → Nat × Nat) (P : Nat → Nat → Nat) (I : Nat → Nat → Int32) (L : Nat → Nat → Int64) (a1 : Int32) (a2 : Int32) : Option (Int32 × (Nat → Nat → Int32) × (Nat → Nat → Int64)) := (if (I (P 12 0) 0) = 0 then (some ((-1 : Int32), I, L)) else (Option.bind (mX11_isWithin a1 (0 : Int32) (99 : Int32)) (fun q2 => (if q2 = 0 then (some ((-1 : Int32), I, L)) else (Option.bind (mX11_isWithin a2 (0 : Int32) (1 : Int32)) (fun q5 => (if q5 = 0 then (some ((-1 : Int32), I, L)) else (mX11_look_39 K P (fun (I_12 : (Nat → Nat → Int32)) (L_12 : (Nat → Nat → Int64)) (a2_12 : Int32) (a3_12 : Int32) => (if a3_12 = 0 then (some ((-2 : Int32), I_12, L_12)) else (mX11_look_86 K P xf I_12 L_12 a2_12 a3_12 (-2 : Int32) (8 : Int32) (0 : Int32)))) xf I L a1 a2 (0 : Int32) (-1 : Int32)))))))))
set_option maxHeartbeats 400000 in
set_option maxRecDepth 100000 in
theorem kX11_look {E : xE} {B : Nat} {n : Nat} {K : Nat → Nat × Nat} {P : Nat → Nat → Nat} {I : Nat → Nat → Int32} {L : Nat → Nat → Int64}  {a1 : Int32} {a2 : Int32} {q : Int32 × (Nat → Nat → Int32) × (Nat → Nat → Int64)} (d : Nat) (hd : 7 ≤ d) (G : GW K P)   (hm : mX11_look K P I L a1 a2 = some q) : MX E B d 0 0 yX11_look cX11_look 8 (some .int) [.ref 1, .int a1, .int a2] (n, K, P, I, L) (some (.int q.1), (n, K, P, q.2.1, q.2.2)) := by
  refine MX_of (lv := [(0, .ref 1), (1, .int a1), (2, .int a2)]) (by decide +kernel) (Nat.le_of_ble_eq_true rfl) rfl ?_
  obtain ⟨d, rfl⟩ : ∃ d0, d = d0 + 1 := ⟨d - 1, by omega⟩
  unfold mX11_look at hm
  refine X_aload_n 0 dX11_look_0 rfl rfl rfl ?_
  refine X_getPe fl_X11_38 (g_K1 G) rfl (g_P1_6 G) dX11_look_1 ?_
  refine X_getP fl_X11_116 (g_K12 G) rfl dX11_look_4 ?_
  refine X_getI fl_X11_219 (gl9_st G (g_K12 G)) rfl dX11_look_7 ?_
  refine X_if_eq (tgt := 32) dX11_look_10 (by decide) (fun c1 => ?_) (fun c1 => ?_)
  · replace hm := ip c1 hm
    refine X_iconst (v := (-1 : Int32)) dX11_look_32 (by decide) ?_
    replace hm := Option.some.inj hm
    subst hm
    exact X_iret dX11_look_33 rfl
  · replace hm := iq c1 hm
    refine X_iload_n 1 dX11_look_13 rfl rfl ?_
    refine X_iconst (v := (0 : Int32)) dX11_look_14 (by decide) ?_
    refine X_bipush (v := (99 : Int32)) dX11_look_15 (by decide) ?_
    obtain ⟨q2, e3, hm⟩ := ob hm
    refine X_cS1 (kX11_isWithin d (by omega) G e3) ml_X11_285 ms_X11_isWithin rfl rfl (Nat.le_refl _) ⟨Nat.le_refl _, Nat.le_refl _⟩ (Nat.le_of_ble_eq_true rfl) dX11_look_17 ?_
    refine X_if_eq (tgt := 32) dX11_look_20 (by decide) (fun c4 => ?_) (fun c4 => ?_)
    · replace hm := ip c4 hm
      refine X_iconst (v := (-1 : Int32)) dX11_look_32 (by decide) ?_
      replace hm := Option.some.inj hm
      subst hm
      exact X_iret dX11_look_33 rfl
    · replace hm := iq c4 hm
      refine X_iload_n 2 dX11_look_23 rfl rfl ?_
      refine X_iconst (v := (0 : Int32)) dX11_look_24 (by decide) ?_
      refine X_iconst (v := (1 : Int32)) dX11_look_25 (by decide) ?_
      obtain ⟨q5, e6, hm⟩ := ob hm
      refine X_cS1 (kX11_isWithin d (by omega) G e6) ml_X11_285 ms_X11_isWithin rfl rfl (Nat.le_refl _) ⟨Nat.le_refl _, Nat.le_refl _⟩ (Nat.le_of_ble_eq_true rfl) dX11_look_26 ?_
      refine X_if_ne (tgt := 34) dX11_look_29 (by decide) (fun c7 => ?_) (fun c7 => ?_)
      · replace hm := iq c7 hm
        refine X_iconst (v := (0 : Int32)) dX11_look_34 (by decide) ?_
        refine X_istore_n (lv' := [(3, .int (0 : Int32)), (0, .ref 1), (1, .int a1), (2, .int a2)]) dX11_look_35 rfl (by decide) rfl ?_
        refine X_iconst (v := (-1 : Int32)) dX11_look_36 (by decide) ?_
        refine X_istore (lv' := [(4, .int (-1 : Int32)), (3, .int (0 : Int32)), (0, .ref 1), (1, .int a1), (2, .int a2)]) dX11_look_37 (by decide) rfl ?_
        refine X_lv [2, 3, 4, 1, 0] rfl (kX11_look_39 _ hd G (fun I_12 L_12 a2_12 a3_12 hm => ?_) xf _ _ _ _ _ _  hm)
        refine X_iload_n 2 dX11_look_68 rfl rfl ?_
        refine X_if_ne (tgt := 75) dX11_look_69 (by decide) (fun c13 => ?_) (fun c13 => ?_)
        · replace hm := iq c13 hm
          refine X_bipush (v := (-2 : Int32)) dX11_look_75 (by decide) ?_
          refine X_istore (lv' := [(4, .int (-2 : Int32)), (0, .ref 1), (2, .int a2_12), (3, .int a3_12)]) dX11_look_77 (by decide) rfl ?_
          refine X_bipush (v := (8 : Int32)) dX11_look_79 (by decide) ?_
          refine X_istore (lv' := [(5, .int (8 : Int32)), (4, .int (-2 : Int32)), (0, .ref 1), (2, .int a2_12), (3, .int a3_12)]) dX11_look_81 (by decide) rfl ?_
          refine X_iconst (v := (0 : Int32)) dX11_look_83 (by decide) ?_
          refine X_istore (lv' := [(6, .int (0 : Int32)), (5, .int (8 : Int32)), (4, .int (-2 : Int32)), (0, .ref 1), (2, .int a2_12), (3, .int a3_12)]) dX11_look_84 (by decide) rfl ?_
          refine X_lv [3, 4, 5, 2, 1, 0] rfl (kX11_look_86 _ hd G xf _ _ _ _ _ _ _  hm)
        · replace hm := ip c13 hm
          refine X_bipush (v := (-2 : Int32)) dX11_look_72 (by decide) ?_
          replace hm := Option.some.inj hm
          subst hm
          exact X_iret dX11_look_74 rfl
      · replace hm := ip c7 hm
        refine X_iconst (v := (-1 : Int32)) dX11_look_32 (by decide) ?_
        replace hm := Option.some.inj hm
        subst hm
        exact X_iret dX11_look_33 rfl
def mX11_seed  (I : Nat → Nat → Int32) (a1 : Int32) : Option (Int32 × (Nat → Nat → Int32)) := (if 0 ≤ a1 then (some ((I 12 8), (xu I 12 8 a1))) else (some ((-1 : Int32), I)))
set_option maxHeartbeats 400000 in
set_option maxRecDepth 100000 in
theorem kX11_seed {E : xE} {B : Nat} {n : Nat} {K : Nat → Nat × Nat} {P : Nat → Nat → Nat} {I : Nat → Nat → Int32} {L : Nat → Nat → Int64}  {a1 : Int32} {q : Int32 × (Nat → Nat → Int32)} (d : Nat) (hd : 0 ≤ d) (G : GW K P)   (hm : mX11_seed I a1 = some q) : MX E B d 0 0 yX11_seed cX11_seed 3 (some .int) [.ref 1, .int a1] (n, K, P, I, L) (some (.int q.1), (n, K, P, q.2, L)) := by
  refine MX_of (lv := [(0, .ref 1), (1, .int a1)]) (by decide +kernel) (Nat.le_of_ble_eq_true rfl) rfl ?_
  unfold mX11_seed at hm
  refine X_iload_n 1 dX11_seed_0 rfl rfl ?_
  refine X_if_ge (tgt := 6) dX11_seed_1 (by decide) (fun c1 => ?_) (fun c1 => ?_)
  · replace hm := ip c1 hm
    refine X_aload_n 0 dX11_seed_6 rfl rfl rfl ?_
    refine X_getPe fl_X11_38 (g_K1 G) rfl (g_P1_6 G) dX11_seed_7 ?_
    refine X_getI fl_X11_239 (g_K12 G) rfl dX11_seed_10 ?_
    refine X_istore_n (lv' := [(2, .int (I 12 8)), (0, .ref 1), (1, .int a1)]) dX11_seed_13 rfl (by decide) rfl ?_
    refine X_aload_n 1 dX11_seed_14 rfl rfl rfl ?_
    refine X_getPe fl_X11_38 (g_K1 G) rfl (g_P1_6 G) dX11_seed_15 ?_
    refine X_iload_n 2 dX11_seed_18 rfl rfl ?_
    refine X_putI fl_X11_239 (g_K12 G) rfl rfl dX11_seed_19 ?_
    refine X_iload_n 0 dX11_seed_22 rfl rfl ?_
    replace hm := Option.some.inj hm
    subst hm
    exact X_iret dX11_seed_23 rfl
  · replace hm := iq c1 hm
    refine X_iconst (v := (-1 : Int32)) dX11_seed_4 (by decide) ?_
    replace hm := Option.some.inj hm
    subst hm
    exact X_iret dX11_seed_5 rfl
def mX11_years_124 (P : Nat → Nat → Nat) (e159 : (Nat → Nat → Int32) → (Nat → Nat → Int64) → Int32 → Int32 → Int32 → Int32 → Int32 → Option (Int32 × (Nat → Nat → Int32) × (Nat → Nat → Int64))) : Nat → (Nat → Nat → Int32) → (Nat → Nat → Int64) → Int32 → Int32 → Int32 → Int32 → Int32 → Int32 → Option (Int32 × (Nat → Nat → Int32) × (Nat → Nat → Int64))
  | 0, _, _, _, _, _, _, _, _ => none
  | f + 1, I, L, a1, a2, a3, a4, a5, a6 => (if a2 ≤ a6 then (e159 I L a1 a2 a3 a4 a5) else (Option.bind (mX2_passDrawn I L (P 12 0) 92) (fun q24 => (mX11_years_124 P e159 f q24.2.1 q24.2.2 a1 a2 a3 (a4 + q24.1) a5 (a6 + 1)))))
set_option maxHeartbeats 400000 in
set_option maxRecDepth 100000 in
theorem kX11_years_124 {E : xE} {B : Nat} {n : Nat} {K : Nat → Nat × Nat} {P : Nat → Nat → Nat}  {e159 : (Nat → Nat → Int32) → (Nat → Nat → Int64) → Int32 → Int32 → Int32 → Int32 → Int32 → Option (Int32 × (Nat → Nat → Int32) × (Nat → Nat → Int64))} {q : Int32 × (Nat → Nat → Int32) × (Nat → Nat → Int64)} (d : Nat) (hd : 6 ≤ d) (G : GW K P)  (he159 : ∀ (I : Nat → Nat → Int32) (L : Nat → Nat → Int64) (a1 : Int32) (a2 : Int32) (a3 : Int32) (a4 : Int32) (a5 : Int32), e159 I L a1 a2 a3 a4 a5 = some q → X E B d 0 0 yX11_years cX11_years 7 (some .int) (some (.int q.1), (n, K, P, q.2.1, q.2.2)) 159 [(0, .ref 1), (1, .int a1), (2, .int a2), (3, .int a3), (4, .int a4), (5, .int a5)] [] 0 0 (n, K, P, I, L)) : ∀ (f : Nat) (I : Nat → Nat → Int32) (L : Nat → Nat → Int64) (a1 : Int32) (a2 : Int32) (a3 : Int32) (a4 : Int32) (a5 : Int32) (a6 : Int32), mX11_years_124 P e159 f I L a1 a2 a3 a4 a5 a6 = some q → X E B d 0 0 yX11_years cX11_years 7 (some .int) (some (.int q.1), (n, K, P, q.2.1, q.2.2)) 124 [(0, .ref 1), (1, .int a1), (2, .int a2), (3, .int a3), (4, .int a4), (5, .int a5), (6, .int a6)] [] 0 0 (n, K, P, I, L) := by
  obtain ⟨d, rfl⟩ : ∃ d0, d = d0 + 1 := ⟨d - 1, by omega⟩
  intro f
  induction f with
  | zero => intro _ _ _ _ _ _ _ _ hm; exact nomatch (show (none : Option (Int32 × (Nat → Nat → Int32) × (Nat → Nat → Int64))) = some q from hm)
  | succ f ih =>
    intro I L a1 a2 a3 a4 a5 a6 hm
    rw [mX11_years_124] at hm
    refine X_iload 6 dX11_years_124 rfl ?_
    refine X_iload_n 2 dX11_years_126 rfl rfl ?_
    refine X_icmp_ge (tgt := 159) dX11_years_127 (by decide) (fun c23 => ?_) (fun c23 => ?_)
    · replace hm := ip c23 hm
      exact X_lv [0, 1, 2, 3, 4, 5] rfl (he159 _ _ _ _ _ _ _ hm)
    · replace hm := iq c23 hm
      refine X_iload 4 dX11_years_130 rfl ?_
      refine X_aload_n 0 dX11_years_132 rfl rfl rfl ?_
      refine X_getPe fl_X11_56 (g_K1 G) rfl (g_P1_9 G) dX11_years_133 ?_
      refine X_aload_n 0 dX11_years_136 rfl rfl rfl ?_
      refine X_getPe fl_X11_38 (g_K1 G) rfl (g_P1_6 G) dX11_years_137 ?_
      refine X_getP fl_X11_116 (g_K12 G) rfl dX11_years_140 ?_
      refine X_aload_n 0 dX11_years_143 rfl rfl rfl ?_
      refine X_getPe fl_X11_49 (g_K1 G) rfl (g_P1_8 G) dX11_years_144 ?_
      obtain ⟨q24, e25, hm⟩ := ob hm
      refine X_cV1 (ci := 1) (kX2_passDrawn d (by omega) G (gl9_st G (g_K12 G)) (g_K92 G) e25) ml_X11_409 mi_X2_passDrawn rfl cf_1 (g_K95 G) rfl rfl (Nat.le_refl _) ⟨Nat.le_refl _, Nat.le_refl _⟩ (Nat.le_of_ble_eq_true rfl) dX11_years_147 ?_
      refine X_iadd dX11_years_150 ?_
      refine X_istore (lv' := [(4, .int (a4 + q24.1)), (0, .ref 1), (1, .int a1), (2, .int a2), (3, .int a3), (5, .int a5), (6, .int a6)]) dX11_years_151 (by decide) rfl ?_
      refine X_iinc (lv' := [(6, .int (a6 + 1)), (4, .int (a4 + q24.1)), (0, .ref 1), (1, .int a1), (2, .int a2), (3, .int a3), (5, .int a5)]) 6 dX11_years_153 rfl rfl (by decide) rfl ?_
      refine X_goto (tgt := 124) dX11_years_156 (by decide) ?_
      exact X_lv [2, 3, 4, 5, 1, 6, 0] rfl (ih _ _ _ _ _ _ _ _ hm)
def mX11_years_101 (P : Nat → Nat → Nat)  : Nat → (Nat → Nat → Int32) → (Nat → Nat → Int64) → Int32 → Int32 → Int32 → Int32 → Int32 → Option (Int32 × (Nat → Nat → Int32) × (Nat → Nat → Int64))
  | 0, _, _, _, _, _, _, _ => none
  | f + 1, I, L, a1, a2, a3, a4, a5 => (if a1 ≤ a5 then (if a3 = 0 then (some (a4, I, L)) else (Option.bind (mX2_gotByAll I) (fun q19 => (some (q19, I, L))))) else (Option.bind (mX6_copyFrom I L 92 24) (fun q21 => (mX11_years_124 P (fun (I_26 : (Nat → Nat → Int32)) (L_26 : (Nat → Nat → Int64)) (a1_26 : Int32) (a2_26 : Int32) (a3_26 : Int32) (a4_26 : Int32) (a5_26 : Int32) => (mX11_years_101 P f I_26 L_26 a1_26 a2_26 a3_26 a4_26 (a5_26 + 1))) xf q21.1 q21.2 a1 a2 a3 a4 a5 (0 : Int32)))))
set_option maxHeartbeats 400000 in
set_option maxRecDepth 100000 in
theorem kX11_years_101 {E : xE} {B : Nat} {n : Nat} {K : Nat → Nat × Nat} {P : Nat → Nat → Nat}   {q : Int32 × (Nat → Nat → Int32) × (Nat → Nat → Int64)} (d : Nat) (hd : 6 ≤ d) (G : GW K P)   : ∀ (f : Nat) (I : Nat → Nat → Int32) (L : Nat → Nat → Int64) (a1 : Int32) (a2 : Int32) (a3 : Int32) (a4 : Int32) (a5 : Int32), mX11_years_101 P f I L a1 a2 a3 a4 a5 = some q → X E B d 0 0 yX11_years cX11_years 7 (some .int) (some (.int q.1), (n, K, P, q.2.1, q.2.2)) 101 [(0, .ref 1), (1, .int a1), (2, .int a2), (3, .int a3), (4, .int a4), (5, .int a5)] [] 0 0 (n, K, P, I, L) := by
  obtain ⟨d, rfl⟩ : ∃ d0, d = d0 + 1 := ⟨d - 1, by omega⟩
  intro f
  induction f with
  | zero => intro _ _ _ _ _ _ _ hm; exact nomatch (show (none : Option (Int32 × (Nat → Nat → Int32) × (Nat → Nat → Int64))) = some q from hm)
  | succ f ih =>
    intro I L a1 a2 a3 a4 a5 hm
    rw [mX11_years_101] at hm
    refine X_iload 5 dX11_years_101 rfl ?_
    refine X_iload_n 1 dX11_years_103 rfl rfl ?_
    refine X_icmp_ge (tgt := 165) dX11_years_104 (by decide) (fun c17 => ?_) (fun c17 => ?_)
    · replace hm := ip c17 hm
      refine X_iload_n 3 dX11_years_165 rfl rfl ?_
      refine X_if_ne (tgt := 174) dX11_years_166 (by decide) (fun c18 => ?_) (fun c18 => ?_)
      · replace hm := iq c18 hm
        refine X_aload_n 0 dX11_years_174 rfl rfl rfl ?_
        refine X_getPe fl_X11_56 (g_K1 G) rfl (g_P1_9 G) dX11_years_175 ?_
        obtain ⟨q19, e20, hm⟩ := ob hm
        refine X_cV1 (ci := 1) (kX2_gotByAll d (by omega) G e20) ml_X11_413 mi_X2_gotByAll rfl cf_1 (g_K95 G) rfl rfl (Nat.le_refl _) ⟨Nat.le_refl _, Nat.le_refl _⟩ (Nat.le_of_ble_eq_true rfl) dX11_years_178 ?_
        replace hm := Option.some.inj hm
        subst hm
        exact X_iret dX11_years_181 rfl
      · replace hm := ip c18 hm
        refine X_iload 4 dX11_years_169 rfl ?_
        refine X_goto (tgt := 181) dX11_years_171 (by decide) ?_
        replace hm := Option.some.inj hm
        subst hm
        exact X_iret dX11_years_181 rfl
    · replace hm := iq c17 hm
      refine X_aload_n 0 dX11_years_107 rfl rfl rfl ?_
      refine X_getPe fl_X11_49 (g_K1 G) rfl (g_P1_8 G) dX11_years_108 ?_
      refine X_aload_n 0 dX11_years_111 rfl rfl rfl ?_
      refine X_getPe fl_X11_38 (g_K1 G) rfl (g_P1_6 G) dX11_years_112 ?_
      refine X_getPe fl_X11_142 (g_K12 G) rfl (g_P12_1 G) dX11_years_115 ?_
      obtain ⟨q21, e22, hm⟩ := ob hm
      refine X_cV0 (ci := 5) (kX6_copyFrom d (by omega) G (g_K92 G) (g_K24 G) e22) ml_X11_293 mi_X6_copyFrom rfl cf_5 (g_K92 G) rfl rfl (Nat.le_refl _) ⟨Nat.le_refl _, Nat.le_refl _⟩ (Nat.le_of_ble_eq_true rfl) dX11_years_118 ?_
      refine X_iconst (v := (0 : Int32)) dX11_years_121 (by decide) ?_
      refine X_istore (lv' := [(6, .int (0 : Int32)), (0, .ref 1), (1, .int a1), (2, .int a2), (3, .int a3), (4, .int a4), (5, .int a5)]) dX11_years_122 (by decide) rfl ?_
      refine X_lv [1, 2, 3, 4, 5, 6, 0] rfl (kX11_years_124 _ hd G (fun I_26 L_26 a1_26 a2_26 a3_26 a4_26 a5_26 hm => ?_) xf _ _ _ _ _ _ _ _  hm)
      refine X_iinc (lv' := [(5, .int (a5_26 + 1)), (0, .ref 1), (1, .int a1_26), (2, .int a2_26), (3, .int a3_26), (4, .int a4_26)]) 5 dX11_years_159 rfl rfl (by decide) rfl ?_
      refine X_goto (tgt := 101) dX11_years_162 (by decide) ?_
      exact X_lv [1, 2, 3, 4, 5, 0] rfl (ih _ _ _ _ _ _ _ hm)
def mX11_years (P : Nat → Nat → Nat) (I : Nat → Nat → Int32) (L : Nat → Nat → Int64) (a1 : Int32) (a2 : Int32) (a3 : Int32) : Option (Int32 × (Nat → Nat → Int32) × (Nat → Nat → Int64)) := (if (I (P 12 0) 0) = 0 then (some ((-1 : Int32), I, L)) else (Option.bind (mX11_isWithin a3 (0 : Int32) (1 : Int32)) (fun q2 => (if q2 = 0 then (some ((-1 : Int32), I, L)) else (Option.bind (mX11_isWithin a1 (1 : Int32) (10 : Int32)) (fun q5 => (if q5 = 0 then (some ((-1 : Int32), I, L)) else (Option.bind (mX11_isWithin a2 (1 : Int32) (100 : Int32)) (fun q8 => (if q8 = 0 then (some ((-1 : Int32), I, L)) else (if (I (P 12 0) 7) = 0 then (some ((0 : Int32), I, L)) else (if (I (P 12 0) 6) = 0 then (some ((0 : Int32), I, L)) else (Option.bind (mX2_forgetRents I) (fun q13 => (Option.bind (mX2_beginDraws L (q13 12 8)) (fun q15 => (mX11_years_101 P xf q13 q15 a1 a2 a3 (0 : Int32) (0 : Int32))))))))))))))))))
set_option maxHeartbeats 400000 in
set_option maxRecDepth 100000 in
theorem kX11_years {E : xE} {B : Nat} {n : Nat} {K : Nat → Nat × Nat} {P : Nat → Nat → Nat} {I : Nat → Nat → Int32} {L : Nat → Nat → Int64}  {a1 : Int32} {a2 : Int32} {a3 : Int32} {q : Int32 × (Nat → Nat → Int32) × (Nat → Nat → Int64)} (d : Nat) (hd : 6 ≤ d) (G : GW K P)   (hm : mX11_years P I L a1 a2 a3 = some q) : MX E B d 0 0 yX11_years cX11_years 7 (some .int) [.ref 1, .int a1, .int a2, .int a3] (n, K, P, I, L) (some (.int q.1), (n, K, P, q.2.1, q.2.2)) := by
  refine MX_of (lv := [(0, .ref 1), (1, .int a1), (2, .int a2), (3, .int a3)]) (by decide +kernel) (Nat.le_of_ble_eq_true rfl) rfl ?_
  obtain ⟨d, rfl⟩ : ∃ d0, d = d0 + 1 := ⟨d - 1, by omega⟩
  unfold mX11_years at hm
  refine X_aload_n 0 dX11_years_0 rfl rfl rfl ?_
  refine X_getPe fl_X11_38 (g_K1 G) rfl (g_P1_6 G) dX11_years_1 ?_
  refine X_getP fl_X11_116 (g_K12 G) rfl dX11_years_4 ?_
  refine X_getI fl_X11_219 (gl9_st G (g_K12 G)) rfl dX11_years_7 ?_
  refine X_if_eq (tgt := 22) dX11_years_10 (by decide) (fun c1 => ?_) (fun c1 => ?_)
  · replace hm := ip c1 hm
    refine X_iconst (v := (-1 : Int32)) dX11_years_22 (by decide) ?_
    replace hm := Option.some.inj hm
    subst hm
    exact X_iret dX11_years_23 rfl
  · replace hm := iq c1 hm
    refine X_iload_n 3 dX11_years_13 rfl rfl ?_
    refine X_iconst (v := (0 : Int32)) dX11_years_14 (by decide) ?_
    refine X_iconst (v := (1 : Int32)) dX11_years_15 (by decide) ?_
    obtain ⟨q2, e3, hm⟩ := ob hm
    refine X_cS1 (kX11_isWithin d (by omega) G e3) ml_X11_285 ms_X11_isWithin rfl rfl (Nat.le_refl _) ⟨Nat.le_refl _, Nat.le_refl _⟩ (Nat.le_of_ble_eq_true rfl) dX11_years_16 ?_
    refine X_if_ne (tgt := 24) dX11_years_19 (by decide) (fun c4 => ?_) (fun c4 => ?_)
    · replace hm := iq c4 hm
      refine X_iload_n 1 dX11_years_24 rfl rfl ?_
      refine X_iconst (v := (1 : Int32)) dX11_years_25 (by decide) ?_
      refine X_bipush (v := (10 : Int32)) dX11_years_26 (by decide) ?_
      obtain ⟨q5, e6, hm⟩ := ob hm
      refine X_cS1 (kX11_isWithin d (by omega) G e6) ml_X11_285 ms_X11_isWithin rfl rfl (Nat.le_refl _) ⟨Nat.le_refl _, Nat.le_refl _⟩ (Nat.le_of_ble_eq_true rfl) dX11_years_28 ?_
      refine X_if_eq (tgt := 44) dX11_years_31 (by decide) (fun c7 => ?_) (fun c7 => ?_)
      · replace hm := ip c7 hm
        refine X_iconst (v := (-1 : Int32)) dX11_years_44 (by decide) ?_
        replace hm := Option.some.inj hm
        subst hm
        exact X_iret dX11_years_45 rfl
      · replace hm := iq c7 hm
        refine X_iload_n 2 dX11_years_34 rfl rfl ?_
        refine X_iconst (v := (1 : Int32)) dX11_years_35 (by decide) ?_
        refine X_bipush (v := (100 : Int32)) dX11_years_36 (by decide) ?_
        obtain ⟨q8, e9, hm⟩ := ob hm
        refine X_cS1 (kX11_isWithin d (by omega) G e9) ml_X11_285 ms_X11_isWithin rfl rfl (Nat.le_refl _) ⟨Nat.le_refl _, Nat.le_refl _⟩ (Nat.le_of_ble_eq_true rfl) dX11_years_38 ?_
        refine X_if_ne (tgt := 46) dX11_years_41 (by decide) (fun c10 => ?_) (fun c10 => ?_)
        · replace hm := iq c10 hm
          refine X_aload_n 0 dX11_years_46 rfl rfl rfl ?_
          refine X_getPe fl_X11_38 (g_K1 G) rfl (g_P1_6 G) dX11_years_47 ?_
          refine X_getP fl_X11_116 (g_K12 G) rfl dX11_years_50 ?_
          refine X_getI fl_X11_139 (gl9_st G (g_K12 G)) rfl dX11_years_53 ?_
          refine X_if_eq (tgt := 72) dX11_years_56 (by decide) (fun c11 => ?_) (fun c11 => ?_)
          · replace hm := ip c11 hm
            refine X_iconst (v := (0 : Int32)) dX11_years_72 (by decide) ?_
            replace hm := Option.some.inj hm
            subst hm
            exact X_iret dX11_years_73 rfl
          · replace hm := iq c11 hm
            refine X_aload_n 0 dX11_years_59 rfl rfl rfl ?_
            refine X_getPe fl_X11_38 (g_K1 G) rfl (g_P1_6 G) dX11_years_60 ?_
            refine X_getP fl_X11_116 (g_K12 G) rfl dX11_years_63 ?_
            refine X_getI fl_X11_119 (gl9_st G (g_K12 G)) rfl dX11_years_66 ?_
            refine X_if_ne (tgt := 74) dX11_years_69 (by decide) (fun c12 => ?_) (fun c12 => ?_)
            · replace hm := iq c12 hm
              refine X_aload_n 0 dX11_years_74 rfl rfl rfl ?_
              refine X_getPe fl_X11_56 (g_K1 G) rfl (g_P1_9 G) dX11_years_75 ?_
              obtain ⟨q13, e14, hm⟩ := ob hm
              refine X_cV0 (ci := 1) (kX2_forgetRents d (by omega) G e14) ml_X11_282 mi_X2_forgetRents rfl cf_1 (g_K95 G) rfl rfl (Nat.le_refl _) ⟨Nat.le_refl _, Nat.le_refl _⟩ (Nat.le_of_ble_eq_true rfl) dX11_years_78 ?_
              refine X_aload_n 0 dX11_years_81 rfl rfl rfl ?_
              refine X_getPe fl_X11_56 (g_K1 G) rfl (g_P1_9 G) dX11_years_82 ?_
              refine X_aload_n 0 dX11_years_85 rfl rfl rfl ?_
              refine X_getPe fl_X11_38 (g_K1 G) rfl (g_P1_6 G) dX11_years_86 ?_
              refine X_getI fl_X11_239 (g_K12 G) rfl dX11_years_89 ?_
              obtain ⟨q15, e16, hm⟩ := ob hm
              refine X_cV0 (ci := 1) (kX2_beginDraws d (by omega) G e16) ml_X11_406 mi_X2_beginDraws rfl cf_1 (g_K95 G) rfl rfl (Nat.le_refl _) ⟨Nat.le_refl _, Nat.le_refl _⟩ (Nat.le_of_ble_eq_true rfl) dX11_years_92 ?_
              refine X_iconst (v := (0 : Int32)) dX11_years_95 (by decide) ?_
              refine X_istore (lv' := [(4, .int (0 : Int32)), (0, .ref 1), (1, .int a1), (2, .int a2), (3, .int a3)]) dX11_years_96 (by decide) rfl ?_
              refine X_iconst (v := (0 : Int32)) dX11_years_98 (by decide) ?_
              refine X_istore (lv' := [(5, .int (0 : Int32)), (4, .int (0 : Int32)), (0, .ref 1), (1, .int a1), (2, .int a2), (3, .int a3)]) dX11_years_99 (by decide) rfl ?_
              refine X_lv [2, 3, 4, 5, 1, 0] rfl (kX11_years_101 _ hd G xf _ _ _ _ _ _ _  hm)
            · replace hm := ip c12 hm
              refine X_iconst (v := (0 : Int32)) dX11_years_72 (by decide) ?_
              replace hm := Option.some.inj hm
              subst hm
              exact X_iret dX11_years_73 rfl
        · replace hm := ip c10 hm
          refine X_iconst (v := (-1 : Int32)) dX11_years_44 (by decide) ?_
          replace hm := Option.some.inj hm
          subst hm
          exact X_iret dX11_years_45 rfl
    · replace hm := ip c4 hm
      refine X_iconst (v := (-1 : Int32)) dX11_years_22 (by decide) ?_
      replace hm := Option.some.inj hm
      subst hm
      exact X_iret dX11_years_23 rfl
def mX12_in  (a0 : Int64) (a2 : Int64) (a4 : Int64) : Option (Int32) := (if (lg_cmp a0 a2) < 0 then (some (0 : Int32)) else (if 0 < (lg_cmp a0 a4) then (some (0 : Int32)) else (some (1 : Int32))))
set_option maxHeartbeats 400000 in
set_option maxRecDepth 100000 in
theorem kX12_in {E : xE} {B : Nat} {n : Nat} {K : Nat → Nat × Nat} {P : Nat → Nat → Nat} {I : Nat → Nat → Int32} {L : Nat → Nat → Int64}  {a0 : Int64} {a2 : Int64} {a4 : Int64} {q : Int32} (d : Nat) (hd : 0 ≤ d) (G : GW K P)   (hm : mX12_in a0 a2 a4 = some q) : MX E B d 0 0 yX12_in cX12_in 6 (some .boolean) [.long a0, .long a2, .long a4] (n, K, P, I, L) (some (.int q), (n, K, P, I, L)) := by
  refine MX_of (lv := [(0, .long a0), (2, .long a2), (4, .long a4)]) (by decide +kernel) (Nat.le_of_ble_eq_true rfl) rfl ?_
  unfold mX12_in at hm
  refine X_lload_n 0 dX12_in_0 rfl rfl ?_
  refine X_lload_n 1 dX12_in_1 rfl rfl ?_
  refine X_lcmp dX12_in_2 ?_
  refine X_if_lt (tgt := 17) dX12_in_3 (by decide) (fun c1 => ?_) (fun c1 => ?_)
  · replace hm := ip c1 hm
    refine X_iconst (v := (0 : Int32)) dX12_in_17 (by decide) ?_
    replace hm := Option.some.inj hm
    subst hm
    exact X_zret (v := (0 : Int32)) dX12_in_18 rfl (x_nz (Or.inl rfl))
  · replace hm := iq c1 hm
    refine X_lload_n 0 dX12_in_6 rfl rfl ?_
    refine X_lload 2 dX12_in_7 rfl ?_
    refine X_lcmp dX12_in_9 ?_
    refine X_if_gt (tgt := 17) dX12_in_10 (by decide) (fun c2 => ?_) (fun c2 => ?_)
    · replace hm := ip c2 hm
      refine X_iconst (v := (0 : Int32)) dX12_in_17 (by decide) ?_
      replace hm := Option.some.inj hm
      subst hm
      exact X_zret (v := (0 : Int32)) dX12_in_18 rfl (x_nz (Or.inl rfl))
    · replace hm := iq c2 hm
      refine X_iconst (v := (1 : Int32)) dX12_in_13 (by decide) ?_
      refine X_goto (tgt := 18) dX12_in_14 (by decide) ?_
      replace hm := Option.some.inj hm
      subst hm
      exact X_zret (v := (1 : Int32)) dX12_in_18 rfl (x_nz (Or.inr rfl))
def mX12_bits_4   : Nat → Int32 → Int32 → Int32 → Option (Int32)
  | 0, _, _, _ => none
  | f + 1, a0, a1, a2 => (if (16 : Int32) ≤ a2 then (some a1) else (mX12_bits_4 f a0 (a1 + ((xshr a0 a2) &&& (1 : Int32))) (a2 + 1)))
set_option maxHeartbeats 400000 in
set_option maxRecDepth 100000 in
theorem kX12_bits_4 {E : xE} {B : Nat} {n : Nat} {K : Nat → Nat × Nat} {P : Nat → Nat → Nat} {I : Nat → Nat → Int32} {L : Nat → Nat → Int64}   {q : Int32} (d : Nat) (hd : 0 ≤ d) (G : GW K P)   : ∀ (f : Nat) (a0 : Int32) (a1 : Int32) (a2 : Int32), mX12_bits_4 f a0 a1 a2 = some q → X E B d 0 0 yX12_bits cX12_bits 3 (some .int) (some (.int q), (n, K, P, I, L)) 4 [(0, .int a0), (1, .int a1), (2, .int a2)] [] 0 0 (n, K, P, I, L) := by
  intro f
  induction f with
  | zero => intro _ _ _ hm; exact nomatch (show (none : Option (Int32)) = some q from hm)
  | succ f ih =>
    intro a0 a1 a2 hm
    rw [mX12_bits_4] at hm
    refine X_iload_n 2 dX12_bits_4 rfl rfl ?_
    refine X_bipush (v := (16 : Int32)) dX12_bits_5 (by decide) ?_
    refine X_icmp_ge (tgt := 24) dX12_bits_7 (by decide) (fun c1 => ?_) (fun c1 => ?_)
    · replace hm := ip c1 hm
      refine X_iload_n 1 dX12_bits_24 rfl rfl ?_
      replace hm := Option.some.inj hm
      subst hm
      exact X_iret dX12_bits_25 rfl
    · replace hm := iq c1 hm
      refine X_iload_n 1 dX12_bits_10 rfl rfl ?_
      refine X_iload_n 0 dX12_bits_11 rfl rfl ?_
      refine X_iload_n 2 dX12_bits_12 rfl rfl ?_
      refine X_ishr dX12_bits_13 ?_
      refine X_iconst (v := (1 : Int32)) dX12_bits_14 (by decide) ?_
      refine X_iand dX12_bits_15 ?_
      refine X_iadd dX12_bits_16 ?_
      refine X_istore_n (lv' := [(1, .int (a1 + ((xshr a0 a2) &&& (1 : Int32)))), (0, .int a0), (2, .int a2)]) dX12_bits_17 rfl (by decide) rfl ?_
      refine X_iinc (lv' := [(2, .int (a2 + 1)), (1, .int (a1 + ((xshr a0 a2) &&& (1 : Int32)))), (0, .int a0)]) 2 dX12_bits_18 rfl rfl (by decide) rfl ?_
      refine X_goto (tgt := 4) dX12_bits_21 (by decide) ?_
      exact X_lv [2, 1, 0] rfl (ih _ _ _ hm)
def mX12_bits  (a0 : Int32) : Option (Int32) := (mX12_bits_4 xf a0 (0 : Int32) (0 : Int32))
set_option maxHeartbeats 400000 in
set_option maxRecDepth 100000 in
theorem kX12_bits {E : xE} {B : Nat} {n : Nat} {K : Nat → Nat × Nat} {P : Nat → Nat → Nat} {I : Nat → Nat → Int32} {L : Nat → Nat → Int64}  {a0 : Int32} {q : Int32} (d : Nat) (hd : 0 ≤ d) (G : GW K P)   (hm : mX12_bits a0 = some q) : MX E B d 0 0 yX12_bits cX12_bits 3 (some .int) [.int a0] (n, K, P, I, L) (some (.int q), (n, K, P, I, L)) := by
  refine MX_of (lv := [(0, .int a0)]) (by decide +kernel) (Nat.le_of_ble_eq_true rfl) rfl ?_
  unfold mX12_bits at hm
  refine X_iconst (v := (0 : Int32)) dX12_bits_0 (by decide) ?_
  refine X_istore_n (lv' := [(1, .int (0 : Int32)), (0, .int a0)]) dX12_bits_1 rfl (by decide) rfl ?_
  refine X_iconst (v := (0 : Int32)) dX12_bits_2 (by decide) ?_
  refine X_istore_n (lv' := [(2, .int (0 : Int32)), (1, .int (0 : Int32)), (0, .int a0)]) dX12_bits_3 rfl (by decide) rfl ?_
  refine X_lv [2, 1, 0] rfl (kX12_bits_4 _ hd G xf _ _ _  hm)
def mX12_has  (a0 : Int32) (a1 : Int32) : Option (Int32) := (if ((xshr a0 a1) &&& (1 : Int32)) = (1 : Int32) then (some (1 : Int32)) else (some (0 : Int32)))
set_option maxHeartbeats 400000 in
set_option maxRecDepth 100000 in
theorem kX12_has {E : xE} {B : Nat} {n : Nat} {K : Nat → Nat × Nat} {P : Nat → Nat → Nat} {I : Nat → Nat → Int32} {L : Nat → Nat → Int64}  {a0 : Int32} {a1 : Int32} {q : Int32} (d : Nat) (hd : 0 ≤ d) (G : GW K P)   (hm : mX12_has a0 a1 = some q) : MX E B d 0 0 yX12_has cX12_has 2 (some .boolean) [.int a0, .int a1] (n, K, P, I, L) (some (.int q), (n, K, P, I, L)) := by
  refine MX_of (lv := [(0, .int a0), (1, .int a1)]) (by decide +kernel) (Nat.le_of_ble_eq_true rfl) rfl ?_
  unfold mX12_has at hm
  refine X_iload_n 0 dX12_has_0 rfl rfl ?_
  refine X_iload_n 1 dX12_has_1 rfl rfl ?_
  refine X_ishr dX12_has_2 ?_
  refine X_iconst (v := (1 : Int32)) dX12_has_3 (by decide) ?_
  refine X_iand dX12_has_4 ?_
  refine X_iconst (v := (1 : Int32)) dX12_has_5 (by decide) ?_
  refine X_icmp_ne (tgt := 13) dX12_has_6 (by decide) (fun c1 => ?_) (fun c1 => ?_)
  · replace hm := iq c1 hm
    refine X_iconst (v := (0 : Int32)) dX12_has_13 (by decide) ?_
    replace hm := Option.some.inj hm
    subst hm
    exact X_zret (v := (0 : Int32)) dX12_has_14 rfl (x_nz (Or.inl rfl))
  · replace hm := ip c1 hm
    refine X_iconst (v := (1 : Int32)) dX12_has_9 (by decide) ?_
    refine X_goto (tgt := 14) dX12_has_10 (by decide) ?_
    replace hm := Option.some.inj hm
    subst hm
    exact X_zret (v := (1 : Int32)) dX12_has_14 rfl (x_nz (Or.inr rfl))
def mX12_isStreet (I : Nat → Nat → Int32)  : Option (Int32) := (if (I 124 0) ≤ 0 then (some (0 : Int32)) else (some (1 : Int32)))
set_option maxHeartbeats 400000 in
set_option maxRecDepth 100000 in
theorem kX12_isStreet {E : xE} {B : Nat} {n : Nat} {K : Nat → Nat × Nat} {P : Nat → Nat → Nat} {I : Nat → Nat → Int32} {L : Nat → Nat → Int64}   {q : Int32} (d : Nat) (hd : 0 ≤ d) (G : GW K P)   (hm : mX12_isStreet I = some q) : MX E B d 0 0 yX12_isStreet cX12_isStreet 1 (some .boolean) [.ref 123] (n, K, P, I, L) (some (.int q), (n, K, P, I, L)) := by
  refine MX_of (lv := [(0, .ref 123)]) (by decide +kernel) (Nat.le_of_ble_eq_true rfl) rfl ?_
  unfold mX12_isStreet at hm
  refine X_aload_n 0 dX12_isStreet_0 rfl rfl rfl ?_
  refine X_getPe fl_X12_9 (g_K123 G) rfl (g_P123_1 G) dX12_isStreet_1 ?_
  refine X_iconst (v := (0 : Int32)) dX12_isStreet_4 (by decide) ?_
  refine X_ialdJ (j := 0) (g_K124 G) rfl (by decide) dX12_isStreet_5 ?_
  refine X_if_le (tgt := 13) dX12_isStreet_6 (by decide) (fun c1 => ?_) (fun c1 => ?_)
  · replace hm := ip c1 hm
    refine X_iconst (v := (0 : Int32)) dX12_isStreet_13 (by decide) ?_
    replace hm := Option.some.inj hm
    subst hm
    exact X_zret (v := (0 : Int32)) dX12_isStreet_14 rfl (x_nz (Or.inl rfl))
  · replace hm := iq c1 hm
    refine X_iconst (v := (1 : Int32)) dX12_isStreet_9 (by decide) ?_
    refine X_goto (tgt := 14) dX12_isStreet_10 (by decide) ?_
    replace hm := Option.some.inj hm
    subst hm
    exact X_zret (v := (1 : Int32)) dX12_isStreet_14 rfl (x_nz (Or.inr rfl))
def mX12_isThing (I : Nat → Nat → Int32) (a1 : Int32) : Option (Int32) := (Option.bind (mX12_in a1.toInt64 (0 : Int64) ((I 124 3) - (1 : Int32)).toInt64) (fun q1 => (if q1 = 0 ∨ q1 = 1 then (some q1) else none)))
set_option maxHeartbeats 400000 in
set_option maxRecDepth 100000 in
theorem kX12_isThing {E : xE} {B : Nat} {n : Nat} {K : Nat → Nat × Nat} {P : Nat → Nat → Nat} {I : Nat → Nat → Int32} {L : Nat → Nat → Int64}  {a1 : Int32} {q : Int32} (d : Nat) (hd : 1 ≤ d) (G : GW K P)   (hm : mX12_isThing I a1 = some q) : MX E B d 0 0 yX12_isThing cX12_isThing 2 (some .boolean) [.ref 123, .int a1] (n, K, P, I, L) (some (.int q), (n, K, P, I, L)) := by
  refine MX_of (lv := [(0, .ref 123), (1, .int a1)]) (by decide +kernel) (Nat.le_of_ble_eq_true rfl) rfl ?_
  obtain ⟨d, rfl⟩ : ∃ d0, d = d0 + 1 := ⟨d - 1, by omega⟩
  unfold mX12_isThing at hm
  refine X_iload_n 1 dX12_isThing_0 rfl rfl ?_
  refine X_i2l dX12_isThing_1 ?_
  refine X_lconst (v := (0 : Int64)) dX12_isThing_2 (by decide) ?_
  refine X_aload_n 0 dX12_isThing_3 rfl rfl rfl ?_
  refine X_getPe fl_X12_9 (g_K123 G) rfl (g_P123_1 G) dX12_isThing_4 ?_
  refine X_iconst (v := (3 : Int32)) dX12_isThing_7 (by decide) ?_
  refine X_ialdJ (j := 3) (g_K124 G) rfl (by decide) dX12_isThing_8 ?_
  refine X_iconst (v := (1 : Int32)) dX12_isThing_9 (by decide) ?_
  refine X_isub dX12_isThing_10 ?_
  refine X_i2l dX12_isThing_11 ?_
  obtain ⟨q1, e2, hm⟩ := ob hm
  refine X_cS1 (kX12_in d (by omega) G e2) ml_X12_164 ms_X12_in rfl rfl (Nat.le_refl _) ⟨Nat.le_refl _, Nat.le_refl _⟩ (Nat.le_of_ble_eq_true rfl) dX12_isThing_12 ?_
  obtain ⟨g3, hm⟩ := og hm
  replace hm := Option.some.inj hm
  subst hm
  exact X_zret dX12_isThing_15 rfl (x_nz g3)
def mX12_isCell (I : Nat → Nat → Int32) (a1 : Int32) : Option (Int32) := (Option.bind (mX12_in a1.toInt64 (0 : Int64) ((I 124 4) - (1 : Int32)).toInt64) (fun q1 => (if q1 = 0 ∨ q1 = 1 then (some q1) else none)))
set_option maxHeartbeats 400000 in
set_option maxRecDepth 100000 in
theorem kX12_isCell {E : xE} {B : Nat} {n : Nat} {K : Nat → Nat × Nat} {P : Nat → Nat → Nat} {I : Nat → Nat → Int32} {L : Nat → Nat → Int64}  {a1 : Int32} {q : Int32} (d : Nat) (hd : 1 ≤ d) (G : GW K P)   (hm : mX12_isCell I a1 = some q) : MX E B d 0 0 yX12_isCell cX12_isCell 2 (some .boolean) [.ref 123, .int a1] (n, K, P, I, L) (some (.int q), (n, K, P, I, L)) := by
  refine MX_of (lv := [(0, .ref 123), (1, .int a1)]) (by decide +kernel) (Nat.le_of_ble_eq_true rfl) rfl ?_
  obtain ⟨d, rfl⟩ : ∃ d0, d = d0 + 1 := ⟨d - 1, by omega⟩
  unfold mX12_isCell at hm
  refine X_iload_n 1 dX12_isCell_0 rfl rfl ?_
  refine X_i2l dX12_isCell_1 ?_
  refine X_lconst (v := (0 : Int64)) dX12_isCell_2 (by decide) ?_
  refine X_aload_n 0 dX12_isCell_3 rfl rfl rfl ?_
  refine X_getPe fl_X12_9 (g_K123 G) rfl (g_P123_1 G) dX12_isCell_4 ?_
  refine X_iconst (v := (4 : Int32)) dX12_isCell_7 (by decide) ?_
  refine X_ialdJ (j := 4) (g_K124 G) rfl (by decide) dX12_isCell_8 ?_
  refine X_iconst (v := (1 : Int32)) dX12_isCell_9 (by decide) ?_
  refine X_isub dX12_isCell_10 ?_
  refine X_i2l dX12_isCell_11 ?_
  obtain ⟨q1, e2, hm⟩ := ob hm
  refine X_cS1 (kX12_in d (by omega) G e2) ml_X12_164 ms_X12_in rfl rfl (Nat.le_refl _) ⟨Nat.le_refl _, Nat.le_refl _⟩ (Nat.le_of_ble_eq_true rfl) dX12_isCell_12 ?_
  obtain ⟨g3, hm⟩ := og hm
  replace hm := Option.some.inj hm
  subst hm
  exact X_zret dX12_isCell_15 rfl (x_nz g3)
def mX12_isPainter (I : Nat → Nat → Int32) (a1 : Int32) : Option (Int32) := (Option.bind (mX12_in a1.toInt64 (0 : Int64) ((I 124 5) - (1 : Int32)).toInt64) (fun q1 => (if q1 = 0 ∨ q1 = 1 then (some q1) else none)))
set_option maxHeartbeats 400000 in
set_option maxRecDepth 100000 in
theorem kX12_isPainter {E : xE} {B : Nat} {n : Nat} {K : Nat → Nat × Nat} {P : Nat → Nat → Nat} {I : Nat → Nat → Int32} {L : Nat → Nat → Int64}  {a1 : Int32} {q : Int32} (d : Nat) (hd : 1 ≤ d) (G : GW K P)   (hm : mX12_isPainter I a1 = some q) : MX E B d 0 0 yX12_isPainter cX12_isPainter 2 (some .boolean) [.ref 123, .int a1] (n, K, P, I, L) (some (.int q), (n, K, P, I, L)) := by
  refine MX_of (lv := [(0, .ref 123), (1, .int a1)]) (by decide +kernel) (Nat.le_of_ble_eq_true rfl) rfl ?_
  obtain ⟨d, rfl⟩ : ∃ d0, d = d0 + 1 := ⟨d - 1, by omega⟩
  unfold mX12_isPainter at hm
  refine X_iload_n 1 dX12_isPainter_0 rfl rfl ?_
  refine X_i2l dX12_isPainter_1 ?_
  refine X_lconst (v := (0 : Int64)) dX12_isPainter_2 (by decide) ?_
  refine X_aload_n 0 dX12_isPainter_3 rfl rfl rfl ?_
  refine X_getPe fl_X12_9 (g_K123 G) rfl (g_P123_1 G) dX12_isPainter_4 ?_
  refine X_iconst (v := (5 : Int32)) dX12_isPainter_7 (by decide) ?_
  refine X_ialdJ (j := 5) (g_K124 G) rfl (by decide) dX12_isPainter_8 ?_
  refine X_iconst (v := (1 : Int32)) dX12_isPainter_9 (by decide) ?_
  refine X_isub dX12_isPainter_10 ?_
  refine X_i2l dX12_isPainter_11 ?_
  obtain ⟨q1, e2, hm⟩ := ob hm
  refine X_cS1 (kX12_in d (by omega) G e2) ml_X12_164 ms_X12_in rfl rfl (Nat.le_refl _) ⟨Nat.le_refl _, Nat.le_refl _⟩ (Nat.le_of_ble_eq_true rfl) dX12_isPainter_12 ?_
  obtain ⟨g3, hm⟩ := og hm
  replace hm := Option.some.inj hm
  subst hm
  exact X_zret dX12_isPainter_15 rfl (x_nz g3)
def mX12_put_3   : Nat → (Nat → Nat → Int32) → Int32 → Int32 → Option ((Nat → Nat → Int32))
  | 0, _, _, _ => none
  | f + 1, I, a1, a2 => (if a2 < 0 then (some I) else (if inb (I 123 27) 400 = true then (mX12_put_3 f (xu (xu I 150 (ix (I 123 27)) (xi2b (xi2b (xshr a1 a2)))) 123 27 (((xu I 150 (ix (I 123 27)) (xi2b (xi2b (xshr a1 a2)))) 123 27) + (1 : Int32))) a1 (a2 + (-8))) else none))
set_option maxHeartbeats 400000 in
set_option maxRecDepth 100000 in
theorem kX12_put_3 {E : xE} {B : Nat} {n : Nat} {K : Nat → Nat × Nat} {P : Nat → Nat → Nat} {L : Nat → Nat → Int64}   {q : (Nat → Nat → Int32)} (d : Nat) (hd : 0 ≤ d) (G : GW K P)   : ∀ (f : Nat) (I : Nat → Nat → Int32) (a1 : Int32) (a2 : Int32), mX12_put_3 f I a1 a2 = some q → X E B d 0 0 yX12_put cX12_put 3 (none : Option Jvm.ClassFile.FieldType) (none, (n, K, P, q, L)) 3 [(0, .ref 123), (1, .int a1), (2, .int a2)] [] 0 0 (n, K, P, I, L) := by
  intro f
  induction f with
  | zero => intro _ _ _ hm; exact nomatch (show (none : Option ((Nat → Nat → Int32))) = some q from hm)
  | succ f ih =>
    intro I a1 a2 hm
    rw [mX12_put_3] at hm
    refine X_iload_n 2 dX12_put_3 rfl rfl ?_
    refine X_if_lt (tgt := 36) dX12_put_4 (by decide) (fun c1 => ?_) (fun c1 => ?_)
    · replace hm := ip c1 hm
      replace hm := Option.some.inj hm
      subst hm
      exact X_vret dX12_put_36 rfl
    · replace hm := iq c1 hm
      refine X_aload_n 0 dX12_put_7 rfl rfl rfl ?_
      refine X_getPe fl_X12_92 (g_K123 G) rfl (g_P123_37 G) dX12_put_8 ?_
      refine X_aload_n 0 dX12_put_11 rfl rfl rfl ?_
      refine X_getI fl_X12_168 (g_K123 G) rfl dX12_put_12 ?_
      refine X_iload_n 1 dX12_put_15 rfl rfl ?_
      refine X_iload_n 2 dX12_put_16 rfl rfl ?_
      refine X_ishr dX12_put_17 ?_
      refine X_i2b dX12_put_18 ?_
      obtain ⟨g2, hm⟩ := og hm
      refine X_bastJ (g_K150 G) g2 rfl dX12_put_19 ?_
      refine X_aload_n 0 dX12_put_20 rfl rfl rfl ?_
      refine X_dup dX12_put_21 rfl ?_
      refine X_getI fl_X12_168 (g_K123 G) rfl dX12_put_22 ?_
      refine X_iconst (v := (1 : Int32)) dX12_put_25 (by decide) ?_
      refine X_iadd dX12_put_26 ?_
      refine X_putI fl_X12_168 (g_K123 G) rfl rfl dX12_put_27 ?_
      refine X_iinc (lv' := [(2, .int (a2 + (-8))), (0, .ref 123), (1, .int a1)]) 2 dX12_put_30 rfl rfl (by decide) rfl ?_
      refine X_goto (tgt := 3) dX12_put_33 (by decide) ?_
      exact X_lv [1, 2, 0] rfl (ih _ _ _ hm)
def mX12_put  (I : Nat → Nat → Int32) (a1 : Int32) : Option ((Nat → Nat → Int32)) := (mX12_put_3 xf I a1 (24 : Int32))
set_option maxHeartbeats 400000 in
set_option maxRecDepth 100000 in
theorem kX12_put {E : xE} {B : Nat} {n : Nat} {K : Nat → Nat × Nat} {P : Nat → Nat → Nat} {I : Nat → Nat → Int32} {L : Nat → Nat → Int64}  {a1 : Int32} {q : (Nat → Nat → Int32)} (d : Nat) (hd : 0 ≤ d) (G : GW K P)   (hm : mX12_put I a1 = some q) : MX E B d 0 0 yX12_put cX12_put 3 (none : Option Jvm.ClassFile.FieldType) [.ref 123, .int a1] (n, K, P, I, L) (none, (n, K, P, q, L)) := by
  refine MX_of (lv := [(0, .ref 123), (1, .int a1)]) (by decide +kernel) (Nat.le_of_ble_eq_true rfl) rfl ?_
  unfold mX12_put at hm
  refine X_bipush (v := (24 : Int32)) dX12_put_0 (by decide) ?_
  refine X_istore_n (lv' := [(2, .int (24 : Int32)), (0, .ref 123), (1, .int a1)]) dX12_put_2 rfl (by decide) rfl ?_
  refine X_lv [1, 2, 0] rfl (kX12_put_3 _ hd G xf _ _ _  hm)
def mX12_feed  (I : Nat → Nat → Int32) (a1 : Int32) (a2 : Int32) (a3 : Int32) (a4 : Int32) (a5 : Int32) : Option (Int32 × (Nat → Nat → Int32)) := (if ((I 123 27) + (20 : Int32)) ≤ (400 : Int32) then (Option.bind (mX12_put I a1) (fun q2 => (Option.bind (mX12_put q2 a2) (fun q4 => (Option.bind (mX12_put q4 a3) (fun q6 => (Option.bind (mX12_put q6 a4) (fun q8 => (Option.bind (mX12_put q8 a5) (fun q10 => (some ((q10 123 27), q10)))))))))))) else (some ((-1 : Int32), I)))
set_option maxHeartbeats 400000 in
set_option maxRecDepth 100000 in
theorem kX12_feed {E : xE} {B : Nat} {n : Nat} {K : Nat → Nat × Nat} {P : Nat → Nat → Nat} {I : Nat → Nat → Int32} {L : Nat → Nat → Int64}  {a1 : Int32} {a2 : Int32} {a3 : Int32} {a4 : Int32} {a5 : Int32} {q : Int32 × (Nat → Nat → Int32)} (d : Nat) (hd : 1 ≤ d) (G : GW K P)   (hm : mX12_feed I a1 a2 a3 a4 a5 = some q) : MX E B d 0 0 yX12_feed cX12_feed 6 (some .int) [.ref 123, .int a1, .int a2, .int a3, .int a4, .int a5] (n, K, P, I, L) (some (.int q.1), (n, K, P, q.2, L)) := by
  refine MX_of (lv := [(0, .ref 123), (1, .int a1), (2, .int a2), (3, .int a3), (4, .int a4), (5, .int a5)]) (by decide +kernel) (Nat.le_of_ble_eq_true rfl) rfl ?_
  obtain ⟨d, rfl⟩ : ∃ d0, d = d0 + 1 := ⟨d - 1, by omega⟩
  unfold mX12_feed at hm
  refine X_aload_n 0 dX12_feed_0 rfl rfl rfl ?_
  refine X_getI fl_X12_168 (g_K123 G) rfl dX12_feed_1 ?_
  refine X_bipush (v := (20 : Int32)) dX12_feed_4 (by decide) ?_
  refine X_iadd dX12_feed_6 ?_
  refine X_sipush (v := (400 : Int32)) dX12_feed_7 (by decide) ?_
  refine X_icmp_le (tgt := 15) dX12_feed_10 (by decide) (fun c1 => ?_) (fun c1 => ?_)
  · replace hm := ip c1 hm
    refine X_aload_n 0 dX12_feed_15 rfl rfl rfl ?_
    refine X_iload_n 1 dX12_feed_16 rfl rfl ?_
    obtain ⟨q2, e3, hm⟩ := ob hm
    refine X_cV0 (ci := 11) (kX12_put d (by omega) G e3) ml_X12_171 mi_X12_put rfl cf_11 (g_K123 G) rfl rfl (Nat.le_refl _) ⟨Nat.le_refl _, Nat.le_refl _⟩ (Nat.le_of_ble_eq_true rfl) dX12_feed_17 ?_
    refine X_aload_n 0 dX12_feed_20 rfl rfl rfl ?_
    refine X_iload_n 2 dX12_feed_21 rfl rfl ?_
    obtain ⟨q4, e5, hm⟩ := ob hm
    refine X_cV0 (ci := 11) (kX12_put d (by omega) G e5) ml_X12_171 mi_X12_put rfl cf_11 (g_K123 G) rfl rfl (Nat.le_refl _) ⟨Nat.le_refl _, Nat.le_refl _⟩ (Nat.le_of_ble_eq_true rfl) dX12_feed_22 ?_
    refine X_aload_n 0 dX12_feed_25 rfl rfl rfl ?_
    refine X_iload_n 3 dX12_feed_26 rfl rfl ?_
    obtain ⟨q6, e7, hm⟩ := ob hm
    refine X_cV0 (ci := 11) (kX12_put d (by omega) G e7) ml_X12_171 mi_X12_put rfl cf_11 (g_K123 G) rfl rfl (Nat.le_refl _) ⟨Nat.le_refl _, Nat.le_refl _⟩ (Nat.le_of_ble_eq_true rfl) dX12_feed_27 ?_
    refine X_aload_n 0 dX12_feed_30 rfl rfl rfl ?_
    refine X_iload 4 dX12_feed_31 rfl ?_
    obtain ⟨q8, e9, hm⟩ := ob hm
    refine X_cV0 (ci := 11) (kX12_put d (by omega) G e9) ml_X12_171 mi_X12_put rfl cf_11 (g_K123 G) rfl rfl (Nat.le_refl _) ⟨Nat.le_refl _, Nat.le_refl _⟩ (Nat.le_of_ble_eq_true rfl) dX12_feed_33 ?_
    refine X_aload_n 0 dX12_feed_36 rfl rfl rfl ?_
    refine X_iload 5 dX12_feed_37 rfl ?_
    obtain ⟨q10, e11, hm⟩ := ob hm
    refine X_cV0 (ci := 11) (kX12_put d (by omega) G e11) ml_X12_171 mi_X12_put rfl cf_11 (g_K123 G) rfl rfl (Nat.le_refl _) ⟨Nat.le_refl _, Nat.le_refl _⟩ (Nat.le_of_ble_eq_true rfl) dX12_feed_39 ?_
    refine X_aload_n 0 dX12_feed_42 rfl rfl rfl ?_
    refine X_getI fl_X12_168 (g_K123 G) rfl dX12_feed_43 ?_
    replace hm := Option.some.inj hm
    subst hm
    exact X_iret dX12_feed_46 rfl
  · replace hm := iq c1 hm
    refine X_iconst (v := (-1 : Int32)) dX12_feed_13 (by decide) ?_
    replace hm := Option.some.inj hm
    subst hm
    exact X_iret dX12_feed_14 rfl
def mX12_end  (I : Nat → Nat → Int32) (a1 : Int32) : Option (Int32 × (Nat → Nat → Int32)) := (if a1 < 0 then (some ((-1 : Int32), I)) else (if a1 ≤ (I 123 27) then (some (a1, (xu I 123 27 a1))) else (some ((-1 : Int32), I))))
set_option maxHeartbeats 400000 in
set_option maxRecDepth 100000 in
theorem kX12_end {E : xE} {B : Nat} {n : Nat} {K : Nat → Nat × Nat} {P : Nat → Nat → Nat} {I : Nat → Nat → Int32} {L : Nat → Nat → Int64}  {a1 : Int32} {q : Int32 × (Nat → Nat → Int32)} (d : Nat) (hd : 0 ≤ d) (G : GW K P)   (hm : mX12_end I a1 = some q) : MX E B d 0 0 yX12_end cX12_end 2 (some .int) [.ref 123, .int a1] (n, K, P, I, L) (some (.int q.1), (n, K, P, q.2, L)) := by
  refine MX_of (lv := [(0, .ref 123), (1, .int a1)]) (by decide +kernel) (Nat.le_of_ble_eq_true rfl) rfl ?_
  unfold mX12_end at hm
  refine X_iload_n 1 dX12_end_0 rfl rfl ?_
  refine X_if_lt (tgt := 12) dX12_end_1 (by decide) (fun c1 => ?_) (fun c1 => ?_)
  · replace hm := ip c1 hm
    refine X_iconst (v := (-1 : Int32)) dX12_end_12 (by decide) ?_
    replace hm := Option.some.inj hm
    subst hm
    exact X_iret dX12_end_13 rfl
  · replace hm := iq c1 hm
    refine X_iload_n 1 dX12_end_4 rfl rfl ?_
    refine X_aload_n 0 dX12_end_5 rfl rfl rfl ?_
    refine X_getI fl_X12_168 (g_K123 G) rfl dX12_end_6 ?_
    refine X_icmp_le (tgt := 14) dX12_end_9 (by decide) (fun c2 => ?_) (fun c2 => ?_)
    · replace hm := ip c2 hm
      refine X_aload_n 0 dX12_end_14 rfl rfl rfl ?_
      refine X_iload_n 1 dX12_end_15 rfl rfl ?_
      refine X_putI fl_X12_168 (g_K123 G) rfl rfl dX12_end_16 ?_
      refine X_iload_n 1 dX12_end_19 rfl rfl ?_
      replace hm := Option.some.inj hm
      subst hm
      exact X_iret dX12_end_20 rfl
    · replace hm := iq c2 hm
      refine X_iconst (v := (-1 : Int32)) dX12_end_12 (by decide) ?_
      replace hm := Option.some.inj hm
      subst hm
      exact X_iret dX12_end_13 rfl
def mX12_wordOf  (a0 : Int32) : Option (Nat) := (if a0 = (0 : Int32) then (some 4) else (if a0 = (1 : Int32) then (some 10) else (if a0 = (2 : Int32) then (some 3) else (if a0 = (3 : Int32) then (some 11) else (if a0 = (4 : Int32) then (some 12) else (if a0 = (5 : Int32) then (some 13) else (if a0 = (6 : Int32) then (some 14) else (if a0 = (7 : Int32) then (some 15) else (if a0 = (8 : Int32) then (some 16) else (if a0 = (9 : Int32) then (some 17) else (if a0 = (10 : Int32) then (some 18) else (if a0 = (11 : Int32) then (some 19) else (some 7)))))))))))))
set_option maxHeartbeats 400000 in
set_option maxRecDepth 100000 in
theorem kX12_wordOf {E : xE} {B : Nat} {n : Nat} {K : Nat → Nat × Nat} {P : Nat → Nat → Nat} {I : Nat → Nat → Int32} {L : Nat → Nat → Int64}  {a0 : Int32} {q : Nat} (d : Nat) (hd : 0 ≤ d) (G : GW K P)   (hm : mX12_wordOf a0 = some q) : MX E B d 0 0 yX12_wordOf cX12_wordOf 1 (some (.object "java/lang/String")) [.int a0] (n, K, P, I, L) (some (.retAddr q), (n, K, P, I, L)) := by
  refine MX_of (lv := [(0, .int a0)]) (by decide +kernel) (Nat.le_of_ble_eq_true rfl) rfl ?_
  unfold mX12_wordOf at hm
  refine X_iload_n 0 dX12_wordOf_0 rfl rfl ?_
  rcases Decidable.em (a0 = (0 : Int32)) with c1 | c1
  · replace hm := ip c1 hm
    refine X_swK (off := 63) (tgt := 64) c1 dX12_wordOf_1 (by decide) (by decide) (by decide) (by decide) ?_
    refine X_ldcS (i := 4) rfl (by decide) dX12_wordOf_64 ?_
    replace hm := Option.some.inj hm
    subst hm
    exact X_aret dX12_wordOf_66 rfl (Or.inl ⟨_, rfl⟩) rfl
  · replace hm := iq c1 hm
    rcases Decidable.em (a0 = (1 : Int32)) with c2 | c2
    · replace hm := ip c2 hm
      refine X_swK (off := 66) (tgt := 67) c2 dX12_wordOf_1 (by decide) (by decide) (by decide) (by decide) ?_
      refine X_ldcS (i := 10) rfl (by decide) dX12_wordOf_67 ?_
      replace hm := Option.some.inj hm
      subst hm
      exact X_aret dX12_wordOf_69 rfl (Or.inl ⟨_, rfl⟩) rfl
    · replace hm := iq c2 hm
      rcases Decidable.em (a0 = (2 : Int32)) with c3 | c3
      · replace hm := ip c3 hm
        refine X_swK (off := 69) (tgt := 70) c3 dX12_wordOf_1 (by decide) (by decide) (by decide) (by decide) ?_
        refine X_ldcS (i := 3) rfl (by decide) dX12_wordOf_70 ?_
        replace hm := Option.some.inj hm
        subst hm
        exact X_aret dX12_wordOf_72 rfl (Or.inl ⟨_, rfl⟩) rfl
      · replace hm := iq c3 hm
        rcases Decidable.em (a0 = (3 : Int32)) with c4 | c4
        · replace hm := ip c4 hm
          refine X_swK (off := 72) (tgt := 73) c4 dX12_wordOf_1 (by decide) (by decide) (by decide) (by decide) ?_
          refine X_ldcS (i := 11) rfl (by decide) dX12_wordOf_73 ?_
          replace hm := Option.some.inj hm
          subst hm
          exact X_aret dX12_wordOf_75 rfl (Or.inl ⟨_, rfl⟩) rfl
        · replace hm := iq c4 hm
          rcases Decidable.em (a0 = (4 : Int32)) with c5 | c5
          · replace hm := ip c5 hm
            refine X_swK (off := 75) (tgt := 76) c5 dX12_wordOf_1 (by decide) (by decide) (by decide) (by decide) ?_
            refine X_ldcS (i := 12) rfl (by decide) dX12_wordOf_76 ?_
            replace hm := Option.some.inj hm
            subst hm
            exact X_aret dX12_wordOf_78 rfl (Or.inl ⟨_, rfl⟩) rfl
          · replace hm := iq c5 hm
            rcases Decidable.em (a0 = (5 : Int32)) with c6 | c6
            · replace hm := ip c6 hm
              refine X_swK (off := 78) (tgt := 79) c6 dX12_wordOf_1 (by decide) (by decide) (by decide) (by decide) ?_
              refine X_ldcS (i := 13) rfl (by decide) dX12_wordOf_79 ?_
              replace hm := Option.some.inj hm
              subst hm
              exact X_aret dX12_wordOf_81 rfl (Or.inl ⟨_, rfl⟩) rfl
            · replace hm := iq c6 hm
              rcases Decidable.em (a0 = (6 : Int32)) with c7 | c7
              · replace hm := ip c7 hm
                refine X_swK (off := 81) (tgt := 82) c7 dX12_wordOf_1 (by decide) (by decide) (by decide) (by decide) ?_
                refine X_ldcS (i := 14) rfl (by decide) dX12_wordOf_82 ?_
                replace hm := Option.some.inj hm
                subst hm
                exact X_aret dX12_wordOf_84 rfl (Or.inl ⟨_, rfl⟩) rfl
              · replace hm := iq c7 hm
                rcases Decidable.em (a0 = (7 : Int32)) with c8 | c8
                · replace hm := ip c8 hm
                  refine X_swK (off := 84) (tgt := 85) c8 dX12_wordOf_1 (by decide) (by decide) (by decide) (by decide) ?_
                  refine X_ldcS (i := 15) rfl (by decide) dX12_wordOf_85 ?_
                  replace hm := Option.some.inj hm
                  subst hm
                  exact X_aret dX12_wordOf_87 rfl (Or.inl ⟨_, rfl⟩) rfl
                · replace hm := iq c8 hm
                  rcases Decidable.em (a0 = (8 : Int32)) with c9 | c9
                  · replace hm := ip c9 hm
                    refine X_swK (off := 87) (tgt := 88) c9 dX12_wordOf_1 (by decide) (by decide) (by decide) (by decide) ?_
                    refine X_ldcS (i := 16) rfl (by decide) dX12_wordOf_88 ?_
                    replace hm := Option.some.inj hm
                    subst hm
                    exact X_aret dX12_wordOf_90 rfl (Or.inl ⟨_, rfl⟩) rfl
                  · replace hm := iq c9 hm
                    rcases Decidable.em (a0 = (9 : Int32)) with c10 | c10
                    · replace hm := ip c10 hm
                      refine X_swK (off := 90) (tgt := 91) c10 dX12_wordOf_1 (by decide) (by decide) (by decide) (by decide) ?_
                      refine X_ldcS (i := 17) rfl (by decide) dX12_wordOf_91 ?_
                      replace hm := Option.some.inj hm
                      subst hm
                      exact X_aret dX12_wordOf_93 rfl (Or.inl ⟨_, rfl⟩) rfl
                    · replace hm := iq c10 hm
                      rcases Decidable.em (a0 = (10 : Int32)) with c11 | c11
                      · replace hm := ip c11 hm
                        refine X_swK (off := 93) (tgt := 94) c11 dX12_wordOf_1 (by decide) (by decide) (by decide) (by decide) ?_
                        refine X_ldcS (i := 18) rfl (by decide) dX12_wordOf_94 ?_
                        replace hm := Option.some.inj hm
                        subst hm
                        exact X_aret dX12_wordOf_96 rfl (Or.inl ⟨_, rfl⟩) rfl
                      · replace hm := iq c11 hm
                        rcases Decidable.em (a0 = (11 : Int32)) with c12 | c12
                        · replace hm := ip c12 hm
                          refine X_swK (off := 96) (tgt := 97) c12 dX12_wordOf_1 (by decide) (by decide) (by decide) (by decide) ?_
                          refine X_ldcS (i := 19) rfl (by decide) dX12_wordOf_97 ?_
                          replace hm := Option.some.inj hm
                          subst hm
                          exact X_aret dX12_wordOf_99 rfl (Or.inl ⟨_, rfl⟩) rfl
                        · replace hm := iq c12 hm
                          refine X_tableOut (tgt := 100) dX12_wordOf_1 (sw_out 12 (by decide) (fun i hi => by
                            have hi2 : i = 0 ∨ i = 1 ∨ i = 2 ∨ i = 3 ∨ i = 4 ∨ i = 5 ∨ i = 6 ∨ i = 7 ∨ i = 8 ∨ i = 9 ∨ i = 10 ∨ i = 11 := by omega
                            rcases hi2 with rfl | rfl | rfl | rfl | rfl | rfl | rfl | rfl | rfl | rfl | rfl | rfl
                            · exact c1
                            · exact c2
                            · exact c3
                            · exact c4
                            · exact c5
                            · exact c6
                            · exact c7
                            · exact c8
                            · exact c9
                            · exact c10
                            · exact c11
                            · exact c12)) (by decide) ?_
                          refine X_ldcS (i := 7) rfl (by decide) dX12_wordOf_100 ?_
                          replace hm := Option.some.inj hm
                          subst hm
                          exact X_aret dX12_wordOf_102 rfl (Or.inl ⟨_, rfl⟩) rfl
theorem rs_X12_wordOf {a0 : Int32} {q : Nat} (e : mX12_wordOf a0 = some q) : q < 24 := by
  unfold mX12_wordOf at e
  repeat' split at e
  all_goals (cases e; decide)
def mX12_fails  (I : Nat → Nat → Int32) (a1 : Int32) (a2 : Int32) : Option ((Nat → Nat → Int32)) := (if (I 123 29) = 0 then (some (xu I 123 29 (((1 : Int32) + ((8 : Int32) * a2)) + a1))) else (some (xu I 123 29 (I 123 29))))
set_option maxHeartbeats 400000 in
set_option maxRecDepth 100000 in
theorem kX12_fails {E : xE} {B : Nat} {n : Nat} {K : Nat → Nat × Nat} {P : Nat → Nat → Nat} {I : Nat → Nat → Int32} {L : Nat → Nat → Int64}  {a1 : Int32} {a2 : Int32} {q : (Nat → Nat → Int32)} (d : Nat) (hd : 0 ≤ d) (G : GW K P)   (hm : mX12_fails I a1 a2 = some q) : MX E B d 0 0 yX12_fails cX12_fails 3 (none : Option Jvm.ClassFile.FieldType) [.ref 123, .int a1, .int a2] (n, K, P, I, L) (none, (n, K, P, q, L)) := by
  refine MX_of (lv := [(0, .ref 123), (1, .int a1), (2, .int a2)]) (by decide +kernel) (Nat.le_of_ble_eq_true rfl) rfl ?_
  unfold mX12_fails at hm
  refine X_aload_n 0 dX12_fails_0 rfl rfl rfl ?_
  refine X_aload_n 0 dX12_fails_1 rfl rfl rfl ?_
  refine X_getI fl_X12_199 (g_K123 G) rfl dX12_fails_2 ?_
  refine X_if_ne (tgt := 19) dX12_fails_5 (by decide) (fun c1 => ?_) (fun c1 => ?_)
  · replace hm := iq c1 hm
    refine X_aload_n 0 dX12_fails_19 rfl rfl rfl ?_
    refine X_getI fl_X12_199 (g_K123 G) rfl dX12_fails_20 ?_
    refine X_putI fl_X12_199 (g_K123 G) rfl rfl dX12_fails_23 ?_
    replace hm := Option.some.inj hm
    subst hm
    exact X_vret dX12_fails_26 rfl
  · replace hm := ip c1 hm
    refine X_iconst (v := (1 : Int32)) dX12_fails_8 (by decide) ?_
    refine X_bipush (v := (8 : Int32)) dX12_fails_9 (by decide) ?_
    refine X_iload_n 2 dX12_fails_11 rfl rfl ?_
    refine X_imul dX12_fails_12 ?_
    refine X_iadd dX12_fails_13 ?_
    refine X_iload_n 1 dX12_fails_14 rfl rfl ?_
    refine X_iadd dX12_fails_15 ?_
    refine X_goto (tgt := 23) dX12_fails_16 (by decide) ?_
    refine X_putI fl_X12_199 (g_K123 G) rfl rfl dX12_fails_23 ?_
    replace hm := Option.some.inj hm
    subst hm
    exact X_vret dX12_fails_26 rfl
def mX12_sign (I : Nat → Nat → Int32)  : Option (Int32) := (if (I 123 27) ≤ (I 123 28) then (some (-1 : Int32)) else (if inb (I 123 28) 400 = true then (some ((I 150 (ix (I 123 28))) &&& (255 : Int32))) else none))
set_option maxHeartbeats 400000 in
set_option maxRecDepth 100000 in
theorem kX12_sign {E : xE} {B : Nat} {n : Nat} {K : Nat → Nat × Nat} {P : Nat → Nat → Nat} {I : Nat → Nat → Int32} {L : Nat → Nat → Int64}   {q : Int32} (d : Nat) (hd : 0 ≤ d) (G : GW K P)   (hm : mX12_sign I = some q) : MX E B d 0 0 yX12_sign cX12_sign 1 (some .int) [.ref 123] (n, K, P, I, L) (some (.int q), (n, K, P, I, L)) := by
  refine MX_of (lv := [(0, .ref 123)]) (by decide +kernel) (Nat.le_of_ble_eq_true rfl) rfl ?_
  unfold mX12_sign at hm
  refine X_aload_n 0 dX12_sign_0 rfl rfl rfl ?_
  refine X_getI fl_X12_202 (g_K123 G) rfl dX12_sign_1 ?_
  refine X_aload_n 0 dX12_sign_4 rfl rfl rfl ?_
  refine X_getI fl_X12_168 (g_K123 G) rfl dX12_sign_5 ?_
  refine X_icmp_ge (tgt := 27) dX12_sign_8 (by decide) (fun c1 => ?_) (fun c1 => ?_)
  · replace hm := ip c1 hm
    refine X_iconst (v := (-1 : Int32)) dX12_sign_27 (by decide) ?_
    replace hm := Option.some.inj hm
    subst hm
    exact X_iret dX12_sign_28 rfl
  · replace hm := iq c1 hm
    refine X_aload_n 0 dX12_sign_11 rfl rfl rfl ?_
    refine X_getPe fl_X12_92 (g_K123 G) rfl (g_P123_37 G) dX12_sign_12 ?_
    refine X_aload_n 0 dX12_sign_15 rfl rfl rfl ?_
    refine X_getI fl_X12_202 (g_K123 G) rfl dX12_sign_16 ?_
    obtain ⟨g2, hm⟩ := og hm
    refine X_baldJ (g_K150 G) g2 rfl dX12_sign_19 ?_
    refine X_sipush (v := (255 : Int32)) dX12_sign_20 (by decide) ?_
    refine X_iand dX12_sign_23 ?_
    refine X_goto (tgt := 28) dX12_sign_24 (by decide) ?_
    replace hm := Option.some.inj hm
    subst hm
    exact X_iret dX12_sign_28 rfl
def mX12_blanks_0   : Nat → (Nat → Nat → Int32) → Option ((Nat → Nat → Int32))
  | 0, _ => none
  | f + 1, I => (Option.bind (mX12_sign I) (fun q1 => (if q1 = (32 : Int32) then (mX12_blanks_0 f (xu I 123 28 ((I 123 28) + (1 : Int32)))) else (some I))))
set_option maxHeartbeats 400000 in
set_option maxRecDepth 100000 in
theorem kX12_blanks_0 {E : xE} {B : Nat} {n : Nat} {K : Nat → Nat × Nat} {P : Nat → Nat → Nat} {L : Nat → Nat → Int64}   {q : (Nat → Nat → Int32)} (d : Nat) (hd : 1 ≤ d) (G : GW K P)   : ∀ (f : Nat) (I : Nat → Nat → Int32), mX12_blanks_0 f I = some q → X E B d 0 0 yX12_blanks cX12_blanks 1 (none : Option Jvm.ClassFile.FieldType) (none, (n, K, P, q, L)) 0 [(0, .ref 123)] [] 0 0 (n, K, P, I, L) := by
  obtain ⟨d, rfl⟩ : ∃ d0, d = d0 + 1 := ⟨d - 1, by omega⟩
  intro f
  induction f with
  | zero => intro _ hm; exact nomatch (show (none : Option ((Nat → Nat → Int32))) = some q from hm)
  | succ f ih =>
    intro I hm
    rw [mX12_blanks_0] at hm
    refine X_aload_n 0 dX12_blanks_0 rfl rfl rfl ?_
    obtain ⟨q1, e2, hm⟩ := ob hm
    refine X_cV1 (ci := 11) (kX12_sign d (by omega) G e2) ml_X12_205 mi_X12_sign rfl cf_11 (g_K123 G) rfl rfl (Nat.le_refl _) ⟨Nat.le_refl _, Nat.le_refl _⟩ (Nat.le_of_ble_eq_true rfl) dX12_blanks_1 ?_
    refine X_bipush (v := (32 : Int32)) dX12_blanks_4 (by decide) ?_
    refine X_icmp_ne (tgt := 22) dX12_blanks_6 (by decide) (fun c3 => ?_) (fun c3 => ?_)
    · replace hm := iq c3 hm
      replace hm := Option.some.inj hm
      subst hm
      exact X_vret dX12_blanks_22 rfl
    · replace hm := ip c3 hm
      refine X_aload_n 0 dX12_blanks_9 rfl rfl rfl ?_
      refine X_dup dX12_blanks_10 rfl ?_
      refine X_getI fl_X12_202 (g_K123 G) rfl dX12_blanks_11 ?_
      refine X_iconst (v := (1 : Int32)) dX12_blanks_14 (by decide) ?_
      refine X_iadd dX12_blanks_15 ?_
      refine X_putI fl_X12_202 (g_K123 G) rfl rfl dX12_blanks_16 ?_
      refine X_goto (tgt := 0) dX12_blanks_19 (by decide) ?_
      exact ih _ hm
def mX12_blanks  (I : Nat → Nat → Int32) : Option ((Nat → Nat → Int32)) := (mX12_blanks_0 xf I)
set_option maxHeartbeats 400000 in
set_option maxRecDepth 100000 in
theorem kX12_blanks {E : xE} {B : Nat} {n : Nat} {K : Nat → Nat × Nat} {P : Nat → Nat → Nat} {I : Nat → Nat → Int32} {L : Nat → Nat → Int64}   {q : (Nat → Nat → Int32)} (d : Nat) (hd : 1 ≤ d) (G : GW K P)   (hm : mX12_blanks I = some q) : MX E B d 0 0 yX12_blanks cX12_blanks 1 (none : Option Jvm.ClassFile.FieldType) [.ref 123] (n, K, P, I, L) (none, (n, K, P, q, L)) := by
  refine MX_of (lv := [(0, .ref 123)]) (by decide +kernel) (Nat.le_of_ble_eq_true rfl) rfl ?_
  obtain ⟨d, rfl⟩ : ∃ d0, d = d0 + 1 := ⟨d - 1, by omega⟩
  unfold mX12_blanks at hm
  refine kX12_blanks_0 _ hd G xf _  hm
def mX12_isDigit (I : Nat → Nat → Int32)  : Option (Int32) := (Option.bind (mX12_sign I) (fun q1 => (Option.bind (mX12_in q1.toInt64 (48 : Int64) (57 : Int64)) (fun q3 => (if q3 = 0 ∨ q3 = 1 then (some q3) else none)))))
set_option maxHeartbeats 400000 in
set_option maxRecDepth 100000 in
theorem kX12_isDigit {E : xE} {B : Nat} {n : Nat} {K : Nat → Nat × Nat} {P : Nat → Nat → Nat} {I : Nat → Nat → Int32} {L : Nat → Nat → Int64}   {q : Int32} (d : Nat) (hd : 1 ≤ d) (G : GW K P)   (hm : mX12_isDigit I = some q) : MX E B d 0 0 yX12_isDigit cX12_isDigit 1 (some .boolean) [.ref 123] (n, K, P, I, L) (some (.int q), (n, K, P, I, L)) := by
  refine MX_of (lv := [(0, .ref 123)]) (by decide +kernel) (Nat.le_of_ble_eq_true rfl) rfl ?_
  obtain ⟨d, rfl⟩ : ∃ d0, d = d0 + 1 := ⟨d - 1, by omega⟩
  unfold mX12_isDigit at hm
  refine X_aload_n 0 dX12_isDigit_0 rfl rfl rfl ?_
  obtain ⟨q1, e2, hm⟩ := ob hm
  refine X_cV1 (ci := 11) (kX12_sign d (by omega) G e2) ml_X12_205 mi_X12_sign rfl cf_11 (g_K123 G) rfl rfl (Nat.le_refl _) ⟨Nat.le_refl _, Nat.le_refl _⟩ (Nat.le_of_ble_eq_true rfl) dX12_isDigit_1 ?_
  refine X_i2l dX12_isDigit_4 ?_
  refine X_ldc2 lc_X12_209 dX12_isDigit_5 ?_
  refine X_ldc2 lc_X12_211 dX12_isDigit_8 ?_
  obtain ⟨q3, e4, hm⟩ := ob hm
  refine X_cS1 (kX12_in d (by omega) G e4) ml_X12_164 ms_X12_in rfl rfl (Nat.le_refl _) ⟨Nat.le_refl _, Nat.le_refl _⟩ (Nat.le_of_ble_eq_true rfl) dX12_isDigit_11 ?_
  obtain ⟨g5, hm⟩ := og hm
  replace hm := Option.some.inj hm
  subst hm
  exact X_zret dX12_isDigit_14 rfl (x_nz g5)
def mX12_stood_5 (I : Nat → Nat → Int32) (e41 : Nat → Int32 → Option (Int32)) : Nat → Nat → Int32 → Option (Int32)
  | 0, _, _ => none
  | f + 1, a1, a2 => (if (I 123 27) ≤ a2 then (e41 a1 a2) else (if inb a2 400 = true then (if (I 150 (ix a2)) < (97 : Int32) then (e41 a1 a2) else (if inb a2 400 = true then (if (122 : Int32) < (I 150 (ix a2)) then (e41 a1 a2) else (mX12_stood_5 I e41 f a1 (a2 + 1))) else none)) else none))
set_option maxHeartbeats 400000 in
set_option maxRecDepth 100000 in
theorem kX12_stood_5 {E : xE} {B : Nat} {n : Nat} {K : Nat → Nat × Nat} {P : Nat → Nat → Nat} {I : Nat → Nat → Int32} {L : Nat → Nat → Int64}  {e41 : Nat → Int32 → Option (Int32)} {q : Int32} (d : Nat) (hd : 5 ≤ d) (G : GW K P)  (he41 : ∀ (a1 : Nat) (a2 : Int32), a1 < 24 → e41 a1 a2 = some q → X E B d 0 0 yX12_stood cX12_stood 5 (some .boolean) (some (.int q), (n, K, P, I, L)) 41 [(0, .ref 123), (1, .retAddr a1), (2, .int a2)] [] 0 0 (n, K, P, I, L)) : ∀ (f : Nat) (a1 : Nat) (a2 : Int32), a1 < 24 → mX12_stood_5 I e41 f a1 a2 = some q → X E B d 0 0 yX12_stood cX12_stood 5 (some .boolean) (some (.int q), (n, K, P, I, L)) 5 [(0, .ref 123), (1, .retAddr a1), (2, .int a2)] [] 0 0 (n, K, P, I, L) := by
  obtain ⟨d, rfl⟩ : ∃ d0, d = d0 + 1 := ⟨d - 1, by omega⟩
  intro f
  induction f with
  | zero => intro _ _ _ hm; exact nomatch (show (none : Option (Int32)) = some q from hm)
  | succ f ih =>
    intro a1 a2 h1 hm
    rw [mX12_stood_5] at hm
    refine X_iload_n 2 dX12_stood_5 rfl rfl ?_
    refine X_aload_n 0 dX12_stood_6 rfl rfl rfl ?_
    refine X_getI fl_X12_168 (g_K123 G) rfl dX12_stood_7 ?_
    refine X_icmp_ge (tgt := 41) dX12_stood_10 (by decide) (fun c1 => ?_) (fun c1 => ?_)
    · replace hm := ip c1 hm
      exact he41 _ _ h1 hm
    · replace hm := iq c1 hm
      refine X_aload_n 0 dX12_stood_13 rfl rfl rfl ?_
      refine X_getPe fl_X12_92 (g_K123 G) rfl (g_P123_37 G) dX12_stood_14 ?_
      refine X_iload_n 2 dX12_stood_17 rfl rfl ?_
      obtain ⟨g2, hm⟩ := og hm
      refine X_baldJ (g_K150 G) g2 rfl dX12_stood_18 ?_
      refine X_bipush (v := (97 : Int32)) dX12_stood_19 (by decide) ?_
      refine X_icmp_lt (tgt := 41) dX12_stood_21 (by decide) (fun c3 => ?_) (fun c3 => ?_)
      · replace hm := ip c3 hm
        exact he41 _ _ h1 hm
      · replace hm := iq c3 hm
        refine X_aload_n 0 dX12_stood_24 rfl rfl rfl ?_
        refine X_getPe fl_X12_92 (g_K123 G) rfl (g_P123_37 G) dX12_stood_25 ?_
        refine X_iload_n 2 dX12_stood_28 rfl rfl ?_
        obtain ⟨g4, hm⟩ := og hm
        refine X_baldJ (g_K150 G) g4 rfl dX12_stood_29 ?_
        refine X_bipush (v := (122 : Int32)) dX12_stood_30 (by decide) ?_
        refine X_icmp_gt (tgt := 41) dX12_stood_32 (by decide) (fun c5 => ?_) (fun c5 => ?_)
        · replace hm := ip c5 hm
          exact he41 _ _ h1 hm
        · replace hm := iq c5 hm
          refine X_iinc (lv' := [(2, .int (a2 + 1)), (0, .ref 123), (1, .retAddr a1)]) 2 dX12_stood_35 rfl rfl (by decide) rfl ?_
          refine X_goto (tgt := 5) dX12_stood_38 (by decide) ?_
          exact X_lv [1, 2, 0] rfl (ih _ _ h1 hm)
def mX12_stood_63 (I : Nat → Nat → Int32)  : Nat → Nat → Int32 → Int32 → Option (Int32)
  | 0, _, _, _ => none
  | f + 1, a1, a3, a4 => (Option.bind (mJ0_length_8abf5 a1) (fun q10 => (if q10 ≤ a4 then (if a3 = 0 ∨ a3 = 1 then (some a3) else none) else (if a3 = 0 then (if a3 = 0 ∨ a3 = 1 then (some a3) else none) else (if inb ((I 123 28) + a4) 400 = true then (Option.bind (mJ0_charAt_5068e a1 a4) (fun q17 => (if (I 150 (ix ((I 123 28) + a4))) = q17 then (mX12_stood_63 I f a1 (1 : Int32) (a4 + 1)) else (mX12_stood_63 I f a1 (0 : Int32) (a4 + 1))))) else none)))))
set_option maxHeartbeats 400000 in
set_option maxRecDepth 100000 in
theorem kX12_stood_63 {E : xE} {B : Nat} {n : Nat} {K : Nat → Nat × Nat} {P : Nat → Nat → Nat} {I : Nat → Nat → Int32} {L : Nat → Nat → Int64}   {q : Int32} (d : Nat) (hd : 5 ≤ d) (G : GW K P)   : ∀ (f : Nat) (a1 : Nat) (a3 : Int32) (a4 : Int32), a1 < 24 → mX12_stood_63 I f a1 a3 a4 = some q → X E B d 0 0 yX12_stood cX12_stood 5 (some .boolean) (some (.int q), (n, K, P, I, L)) 63 [(0, .ref 123), (1, .retAddr a1), (3, .int a3), (4, .int a4)] [] 0 0 (n, K, P, I, L) := by
  obtain ⟨d, rfl⟩ : ∃ d0, d = d0 + 1 := ⟨d - 1, by omega⟩
  intro f
  induction f with
  | zero => intro _ _ _ _ hm; exact nomatch (show (none : Option (Int32)) = some q from hm)
  | succ f ih =>
    intro a1 a3 a4 h1 hm
    rw [mX12_stood_63] at hm
    refine X_iload 3 dX12_stood_63 rfl ?_
    refine X_aload_n 1 dX12_stood_65 rfl rfl rfl ?_
    obtain ⟨q10, e11, hm⟩ := ob hm
    refine X_cT1 (kJ0_length_8abf5 d (by omega) G h1 e11) ml_X12_213 mi_J0_length_8abf5 rfl h1 rfl rfl (Nat.le_refl _) ⟨Nat.le_refl _, Nat.le_refl _⟩ (Nat.le_of_ble_eq_true rfl) dX12_stood_66 ?_
    refine X_icmp_ge (tgt := 109) dX12_stood_69 (by decide) (fun c12 => ?_) (fun c12 => ?_)
    · replace hm := ip c12 hm
      refine X_iload_n 2 dX12_stood_109 rfl rfl ?_
      obtain ⟨g13, hm⟩ := og hm
      replace hm := Option.some.inj hm
      subst hm
      exact X_zret dX12_stood_110 rfl (x_nz g13)
    · replace hm := iq c12 hm
      refine X_iload_n 2 dX12_stood_72 rfl rfl ?_
      refine X_if_eq (tgt := 109) dX12_stood_73 (by decide) (fun c14 => ?_) (fun c14 => ?_)
      · replace hm := ip c14 hm
        refine X_iload_n 2 dX12_stood_109 rfl rfl ?_
        obtain ⟨g15, hm⟩ := og hm
        replace hm := Option.some.inj hm
        subst hm
        exact X_zret dX12_stood_110 rfl (x_nz g15)
      · replace hm := iq c14 hm
        refine X_aload_n 0 dX12_stood_76 rfl rfl rfl ?_
        refine X_getPe fl_X12_92 (g_K123 G) rfl (g_P123_37 G) dX12_stood_77 ?_
        refine X_aload_n 0 dX12_stood_80 rfl rfl rfl ?_
        refine X_getI fl_X12_202 (g_K123 G) rfl dX12_stood_81 ?_
        refine X_iload 3 dX12_stood_84 rfl ?_
        refine X_iadd dX12_stood_86 ?_
        obtain ⟨g16, hm⟩ := og hm
        refine X_baldJ (g_K150 G) g16 rfl dX12_stood_87 ?_
        refine X_aload_n 1 dX12_stood_88 rfl rfl rfl ?_
        refine X_iload 3 dX12_stood_89 rfl ?_
        obtain ⟨q17, e18, hm⟩ := ob hm
        refine X_cT1 (kJ0_charAt_5068e d (by omega) G h1 e18) ml_X12_218 mi_J0_charAt_5068e rfl h1 rfl rfl (Nat.le_refl _) ⟨Nat.le_refl _, Nat.le_refl _⟩ (Nat.le_of_ble_eq_true rfl) dX12_stood_91 ?_
        refine X_icmp_ne (tgt := 101) dX12_stood_94 (by decide) (fun c19 => ?_) (fun c19 => ?_)
        · replace hm := iq c19 hm
          refine X_iconst (v := (0 : Int32)) dX12_stood_101 (by decide) ?_
          refine X_istore_n (lv' := [(3, .int (0 : Int32)), (0, .ref 123), (1, .retAddr a1), (4, .int a4)]) dX12_stood_102 rfl (by decide) rfl ?_
          refine X_iinc (lv' := [(4, .int (a4 + 1)), (3, .int (0 : Int32)), (0, .ref 123), (1, .retAddr a1)]) 3 dX12_stood_103 rfl rfl (by decide) rfl ?_
          refine X_goto (tgt := 63) dX12_stood_106 (by decide) ?_
          exact X_lv [2, 3, 1, 0] rfl (ih _ _ _ h1 hm)
        · replace hm := ip c19 hm
          refine X_iconst (v := (1 : Int32)) dX12_stood_97 (by decide) ?_
          refine X_goto (tgt := 102) dX12_stood_98 (by decide) ?_
          refine X_istore_n (lv' := [(3, .int (1 : Int32)), (0, .ref 123), (1, .retAddr a1), (4, .int a4)]) dX12_stood_102 rfl (by decide) rfl ?_
          refine X_iinc (lv' := [(4, .int (a4 + 1)), (3, .int (1 : Int32)), (0, .ref 123), (1, .retAddr a1)]) 3 dX12_stood_103 rfl rfl (by decide) rfl ?_
          refine X_goto (tgt := 63) dX12_stood_106 (by decide) ?_
          exact X_lv [2, 3, 1, 0] rfl (ih _ _ _ h1 hm)
def mX12_stood_59 (I : Nat → Nat → Int32) (a1 : Nat) (t0 : Int32) : Option (Int32) := (mX12_stood_63 I xf a1 t0 (0 : Int32))
set_option maxHeartbeats 400000 in
set_option maxRecDepth 100000 in
theorem kX12_stood_59 {E : xE} {B : Nat} {n : Nat} {K : Nat → Nat × Nat} {P : Nat → Nat → Nat} {I : Nat → Nat → Int32} {L : Nat → Nat → Int64}   {a1 : Nat} {t0 : Int32} {q : Int32} (d : Nat) (hd : 5 ≤ d) (G : GW K P)   (h1 : a1 < 24) (hm : mX12_stood_59 I a1 t0 = some q) : X E B d 0 0 yX12_stood cX12_stood 5 (some .boolean) (some (.int q), (n, K, P, I, L)) 59 [(0, .ref 123), (1, .retAddr a1)] [.int t0] 0 0 (n, K, P, I, L) := by
  obtain ⟨d, rfl⟩ : ∃ d0, d = d0 + 1 := ⟨d - 1, by omega⟩
  unfold mX12_stood_59 at hm
  refine X_istore_n (lv' := [(3, .int t0), (0, .ref 123), (1, .retAddr a1)]) dX12_stood_59 rfl (by decide) rfl ?_
  refine X_iconst (v := (0 : Int32)) dX12_stood_60 (by decide) ?_
  refine X_istore (lv' := [(4, .int (0 : Int32)), (3, .int t0), (0, .ref 123), (1, .retAddr a1)]) dX12_stood_61 (by decide) rfl ?_
  refine X_lv [2, 3, 1, 0] rfl (kX12_stood_63 _ hd G xf _ _ _ h1 hm)
def mX12_stood_41 (I : Nat → Nat → Int32) (a1 : Nat) (a2 : Int32) : Option (Int32) := (Option.bind (mJ0_length_8abf5 a1) (fun q7 => (if (a2 - (I 123 28)) = q7 then (mX12_stood_59 I a1 (1 : Int32)) else (mX12_stood_59 I a1 (0 : Int32)))))
set_option maxHeartbeats 400000 in
set_option maxRecDepth 100000 in
theorem kX12_stood_41 {E : xE} {B : Nat} {n : Nat} {K : Nat → Nat × Nat} {P : Nat → Nat → Nat} {I : Nat → Nat → Int32} {L : Nat → Nat → Int64}   {a1 : Nat} {a2 : Int32} {q : Int32} (d : Nat) (hd : 5 ≤ d) (G : GW K P)   (h1 : a1 < 24) (hm : mX12_stood_41 I a1 a2 = some q) : X E B d 0 0 yX12_stood cX12_stood 5 (some .boolean) (some (.int q), (n, K, P, I, L)) 41 [(0, .ref 123), (1, .retAddr a1), (2, .int a2)] [] 0 0 (n, K, P, I, L) := by
  obtain ⟨d, rfl⟩ : ∃ d0, d = d0 + 1 := ⟨d - 1, by omega⟩
  unfold mX12_stood_41 at hm
  refine X_iload_n 2 dX12_stood_41 rfl rfl ?_
  refine X_aload_n 0 dX12_stood_42 rfl rfl rfl ?_
  refine X_getI fl_X12_202 (g_K123 G) rfl dX12_stood_43 ?_
  refine X_isub dX12_stood_46 ?_
  refine X_aload_n 1 dX12_stood_47 rfl rfl rfl ?_
  obtain ⟨q7, e8, hm⟩ := ob hm
  refine X_cT1 (kJ0_length_8abf5 d (by omega) G h1 e8) ml_X12_213 mi_J0_length_8abf5 rfl h1 rfl rfl (Nat.le_refl _) ⟨Nat.le_refl _, Nat.le_refl _⟩ (Nat.le_of_ble_eq_true rfl) dX12_stood_48 ?_
  refine X_icmp_ne (tgt := 58) dX12_stood_51 (by decide) (fun c9 => ?_) (fun c9 => ?_)
  · replace hm := iq c9 hm
    refine X_iconst (v := (0 : Int32)) dX12_stood_58 (by decide) ?_
    exact X_lv [0, 1] rfl (kX12_stood_59 _ hd G h1 hm)
  · replace hm := ip c9 hm
    refine X_iconst (v := (1 : Int32)) dX12_stood_54 (by decide) ?_
    refine X_goto (tgt := 59) dX12_stood_55 (by decide) ?_
    exact X_lv [0, 1] rfl (kX12_stood_59 _ hd G h1 hm)
def mX12_stood (I : Nat → Nat → Int32) (a1 : Nat) : Option (Int32) := (mX12_stood_5 I (fun (a1_6 : Nat) (a2_6 : Int32) => (mX12_stood_41 I a1_6 a2_6)) xf a1 (I 123 28))
set_option maxHeartbeats 400000 in
set_option maxRecDepth 100000 in
theorem kX12_stood {E : xE} {B : Nat} {n : Nat} {K : Nat → Nat × Nat} {P : Nat → Nat → Nat} {I : Nat → Nat → Int32} {L : Nat → Nat → Int64}  {a1 : Nat} {q : Int32} (d : Nat) (hd : 5 ≤ d) (G : GW K P)  (h1 : a1 < 24) (hm : mX12_stood I a1 = some q) : MX E B d 0 0 yX12_stood cX12_stood 5 (some .boolean) [.ref 123, .retAddr a1] (n, K, P, I, L) (some (.int q), (n, K, P, I, L)) := by
  refine MX_of (lv := [(0, .ref 123), (1, .retAddr a1)]) (by decide +kernel) (Nat.le_of_ble_eq_true rfl) rfl ?_
  obtain ⟨d, rfl⟩ : ∃ d0, d = d0 + 1 := ⟨d - 1, by omega⟩
  unfold mX12_stood at hm
  refine X_aload_n 0 dX12_stood_0 rfl rfl rfl ?_
  refine X_getI fl_X12_202 (g_K123 G) rfl dX12_stood_1 ?_
  refine X_istore_n (lv' := [(2, .int (I 123 28)), (0, .ref 123), (1, .retAddr a1)]) dX12_stood_4 rfl (by decide) rfl ?_
  refine X_lv [1, 2, 0] rfl (kX12_stood_5 _ hd G (fun a1_6 a2_6 h1_6 hm => ?_) xf _ _ h1 hm)
  exact kX12_stood_41 _ hd G h1_6 hm
def mX12_takes  (I : Nat → Nat → Int32) (a1 : Nat) : Option (Int32 × (Nat → Nat → Int32)) := (Option.bind (mX12_blanks I) (fun q1 => (Option.bind (mX12_stood q1 a1) (fun q3 => (if q3 = 0 then (if q3 = 0 ∨ q3 = 1 then (some (q3, (xu q1 123 28 ((q1 123 28) + (0 : Int32))))) else none) else (Option.bind (mJ0_length_8abf5 a1) (fun q7 => (if q3 = 0 ∨ q3 = 1 then (some (q3, (xu q1 123 28 ((q1 123 28) + q7)))) else none))))))))
set_option maxHeartbeats 400000 in
set_option maxRecDepth 100000 in
theorem kX12_takes {E : xE} {B : Nat} {n : Nat} {K : Nat → Nat × Nat} {P : Nat → Nat → Nat} {I : Nat → Nat → Int32} {L : Nat → Nat → Int64}  {a1 : Nat} {q : Int32 × (Nat → Nat → Int32)} (d : Nat) (hd : 6 ≤ d) (G : GW K P)  (h1 : a1 < 24) (hm : mX12_takes I a1 = some q) : MX E B d 0 0 yX12_takes cX12_takes 3 (some .boolean) [.ref 123, .retAddr a1] (n, K, P, I, L) (some (.int q.1), (n, K, P, q.2, L)) := by
  refine MX_of (lv := [(0, .ref 123), (1, .retAddr a1)]) (by decide +kernel) (Nat.le_of_ble_eq_true rfl) rfl ?_
  obtain ⟨d, rfl⟩ : ∃ d0, d = d0 + 1 := ⟨d - 1, by omega⟩
  unfold mX12_takes at hm
  refine X_aload_n 0 dX12_takes_0 rfl rfl rfl ?_
  obtain ⟨q1, e2, hm⟩ := ob hm
  refine X_cV0 (ci := 11) (kX12_blanks d (by omega) G e2) ml_X12_222 mi_X12_blanks rfl cf_11 (g_K123 G) rfl rfl (Nat.le_refl _) ⟨Nat.le_refl _, Nat.le_refl _⟩ (Nat.le_of_ble_eq_true rfl) dX12_takes_1 ?_
  refine X_aload_n 0 dX12_takes_4 rfl rfl rfl ?_
  refine X_aload_n 1 dX12_takes_5 rfl rfl rfl ?_
  obtain ⟨q3, e4, hm⟩ := ob hm
  refine X_cV1 (ci := 11) (kX12_stood d (by omega) G h1 e4) ml_X12_225 mi_X12_stood rfl cf_11 (g_K123 G) rfl rfl (Nat.le_refl _) ⟨Nat.le_refl _, Nat.le_refl _⟩ (Nat.le_of_ble_eq_true rfl) dX12_takes_6 ?_
  refine X_istore_n (lv' := [(2, .int q3), (0, .ref 123), (1, .retAddr a1)]) dX12_takes_9 rfl (by decide) rfl ?_
  refine X_aload_n 1 dX12_takes_10 rfl rfl rfl ?_
  refine X_dup dX12_takes_11 rfl ?_
  refine X_getI fl_X12_202 (g_K123 G) rfl dX12_takes_12 ?_
  refine X_iload_n 0 dX12_takes_15 rfl rfl ?_
  refine X_if_eq (tgt := 26) dX12_takes_16 (by decide) (fun c5 => ?_) (fun c5 => ?_)
  · replace hm := ip c5 hm
    refine X_iconst (v := (0 : Int32)) dX12_takes_26 (by decide) ?_
    refine X_iadd dX12_takes_27 ?_
    refine X_putI fl_X12_202 (g_K123 G) rfl rfl dX12_takes_28 ?_
    refine X_iload_n 0 dX12_takes_31 rfl rfl ?_
    obtain ⟨g6, hm⟩ := og hm
    replace hm := Option.some.inj hm
    subst hm
    exact X_zret dX12_takes_32 rfl (x_nz g6)
  · replace hm := iq c5 hm
    refine X_aload_n 2 dX12_takes_19 rfl rfl rfl ?_
    obtain ⟨q7, e8, hm⟩ := ob hm
    refine X_cT1 (kJ0_length_8abf5 d (by omega) G h1 e8) ml_X12_213 mi_J0_length_8abf5 rfl h1 rfl rfl (Nat.le_refl _) ⟨Nat.le_refl _, Nat.le_refl _⟩ (Nat.le_of_ble_eq_true rfl) dX12_takes_20 ?_
    refine X_goto (tgt := 27) dX12_takes_23 (by decide) ?_
    refine X_iadd dX12_takes_27 ?_
    refine X_putI fl_X12_202 (g_K123 G) rfl rfl dX12_takes_28 ?_
    refine X_iload_n 0 dX12_takes_31 rfl rfl ?_
    obtain ⟨g9, hm⟩ := og hm
    replace hm := Option.some.inj hm
    subst hm
    exact X_zret dX12_takes_32 rfl (x_nz g9)
def mX12_entry  (I : Nat → Nat → Int32) (a1 : Int32) (a2 : Int32) : Option ((Nat → Nat → Int32)) := (if (I 123 29) = 0 then (if inb (((300 : Int32) * (I 123 30)) + (I 123 32)) 1800 = true then (if inb (((300 : Int32) * ((xu I 151 (ix (((300 : Int32) * (I 123 30)) + (I 123 32))) a1) 123 30)) + ((xu I 151 (ix (((300 : Int32) * (I 123 30)) + (I 123 32))) a1) 123 32)) 1800 = true then (some (xu (xu (xu I 151 (ix (((300 : Int32) * (I 123 30)) + (I 123 32))) a1) 152 (ix (((300 : Int32) * ((xu I 151 (ix (((300 : Int32) * (I 123 30)) + (I 123 32))) a1) 123 30)) + ((xu I 151 (ix (((300 : Int32) * (I 123 30)) + (I 123 32))) a1) 123 32))) a2) 123 32 (((xu (xu I 151 (ix (((300 : Int32) * (I 123 30)) + (I 123 32))) a1) 152 (ix (((300 : Int32) * ((xu I 151 (ix (((300 : Int32) * (I 123 30)) + (I 123 32))) a1) 123 30)) + ((xu I 151 (ix (((300 : Int32) * (I 123 30)) + (I 123 32))) a1) 123 32))) a2) 123 32) + (1 : Int32)))) else none) else none) else (some I))
set_option maxHeartbeats 400000 in
set_option maxRecDepth 100000 in
theorem kX12_entry {E : xE} {B : Nat} {n : Nat} {K : Nat → Nat × Nat} {P : Nat → Nat → Nat} {I : Nat → Nat → Int32} {L : Nat → Nat → Int64}  {a1 : Int32} {a2 : Int32} {q : (Nat → Nat → Int32)} (d : Nat) (hd : 0 ≤ d) (G : GW K P)   (hm : mX12_entry I a1 a2 = some q) : MX E B d 0 0 yX12_entry cX12_entry 3 (none : Option Jvm.ClassFile.FieldType) [.ref 123, .int a1, .int a2] (n, K, P, I, L) (none, (n, K, P, q, L)) := by
  refine MX_of (lv := [(0, .ref 123), (1, .int a1), (2, .int a2)]) (by decide +kernel) (Nat.le_of_ble_eq_true rfl) rfl ?_
  unfold mX12_entry at hm
  refine X_aload_n 0 dX12_entry_0 rfl rfl rfl ?_
  refine X_getI fl_X12_199 (g_K123 G) rfl dX12_entry_1 ?_
  refine X_if_ne (tgt := 55) dX12_entry_4 (by decide) (fun c1 => ?_) (fun c1 => ?_)
  · replace hm := iq c1 hm
    replace hm := Option.some.inj hm
    subst hm
    exact X_vret dX12_entry_55 rfl
  · replace hm := ip c1 hm
    refine X_aload_n 0 dX12_entry_7 rfl rfl rfl ?_
    refine X_getPe fl_X12_96 (g_K123 G) rfl (g_P123_38 G) dX12_entry_8 ?_
    refine X_sipush (v := (300 : Int32)) dX12_entry_11 (by decide) ?_
    refine X_aload_n 0 dX12_entry_14 rfl rfl rfl ?_
    refine X_getI fl_X12_229 (g_K123 G) rfl dX12_entry_15 ?_
    refine X_imul dX12_entry_18 ?_
    refine X_aload_n 0 dX12_entry_19 rfl rfl rfl ?_
    refine X_getI fl_X12_232 (g_K123 G) rfl dX12_entry_20 ?_
    refine X_iadd dX12_entry_23 ?_
    refine X_iload_n 1 dX12_entry_24 rfl rfl ?_
    obtain ⟨g2, hm⟩ := og hm
    refine X_iastJ (g_K151 G) g2 rfl dX12_entry_25 ?_
    refine X_aload_n 0 dX12_entry_26 rfl rfl rfl ?_
    refine X_getPe fl_X12_99 (g_K123 G) rfl (g_P123_39 G) dX12_entry_27 ?_
    refine X_sipush (v := (300 : Int32)) dX12_entry_30 (by decide) ?_
    refine X_aload_n 0 dX12_entry_33 rfl rfl rfl ?_
    refine X_getI fl_X12_229 (g_K123 G) rfl dX12_entry_34 ?_
    refine X_imul dX12_entry_37 ?_
    refine X_aload_n 0 dX12_entry_38 rfl rfl rfl ?_
    refine X_getI fl_X12_232 (g_K123 G) rfl dX12_entry_39 ?_
    refine X_iadd dX12_entry_42 ?_
    refine X_iload_n 2 dX12_entry_43 rfl rfl ?_
    obtain ⟨g3, hm⟩ := og hm
    refine X_iastJ (g_K152 G) g3 rfl dX12_entry_44 ?_
    refine X_aload_n 0 dX12_entry_45 rfl rfl rfl ?_
    refine X_dup dX12_entry_46 rfl ?_
    refine X_getI fl_X12_232 (g_K123 G) rfl dX12_entry_47 ?_
    refine X_iconst (v := (1 : Int32)) dX12_entry_50 (by decide) ?_
    refine X_iadd dX12_entry_51 ?_
    refine X_putI fl_X12_232 (g_K123 G) rfl rfl dX12_entry_52 ?_
    replace hm := Option.some.inj hm
    subst hm
    exact X_vret dX12_entry_55 rfl
def mX12_isCounted  (I : Nat → Nat → Int32) (a1 : Int32) : Option ((Nat → Nat → Int32)) := (if (I 123 34) = (60 : Int32) then (Option.bind (mX12_fails I (3 : Int32) a1) (fun q2 => (some (xu q2 123 34 ((q2 123 34) + (1 : Int32)))))) else (some (xu I 123 34 ((I 123 34) + (1 : Int32)))))
set_option maxHeartbeats 400000 in
set_option maxRecDepth 100000 in
theorem kX12_isCounted {E : xE} {B : Nat} {n : Nat} {K : Nat → Nat × Nat} {P : Nat → Nat → Nat} {I : Nat → Nat → Int32} {L : Nat → Nat → Int64}  {a1 : Int32} {q : (Nat → Nat → Int32)} (d : Nat) (hd : 1 ≤ d) (G : GW K P)   (hm : mX12_isCounted I a1 = some q) : MX E B d 0 0 yX12_isCounted cX12_isCounted 2 (none : Option Jvm.ClassFile.FieldType) [.ref 123, .int a1] (n, K, P, I, L) (none, (n, K, P, q, L)) := by
  refine MX_of (lv := [(0, .ref 123), (1, .int a1)]) (by decide +kernel) (Nat.le_of_ble_eq_true rfl) rfl ?_
  obtain ⟨d, rfl⟩ : ∃ d0, d = d0 + 1 := ⟨d - 1, by omega⟩
  unfold mX12_isCounted at hm
  refine X_aload_n 0 dX12_isCounted_0 rfl rfl rfl ?_
  refine X_getI fl_X12_235 (g_K123 G) rfl dX12_isCounted_1 ?_
  refine X_bipush (v := (60 : Int32)) dX12_isCounted_4 (by decide) ?_
  refine X_icmp_ne (tgt := 15) dX12_isCounted_6 (by decide) (fun c1 => ?_) (fun c1 => ?_)
  · replace hm := iq c1 hm
    refine X_aload_n 0 dX12_isCounted_15 rfl rfl rfl ?_
    refine X_dup dX12_isCounted_16 rfl ?_
    refine X_getI fl_X12_235 (g_K123 G) rfl dX12_isCounted_17 ?_
    refine X_iconst (v := (1 : Int32)) dX12_isCounted_20 (by decide) ?_
    refine X_iadd dX12_isCounted_21 ?_
    refine X_putI fl_X12_235 (g_K123 G) rfl rfl dX12_isCounted_22 ?_
    replace hm := Option.some.inj hm
    subst hm
    exact X_vret dX12_isCounted_25 rfl
  · replace hm := ip c1 hm
    refine X_aload_n 0 dX12_isCounted_9 rfl rfl rfl ?_
    refine X_iconst (v := (3 : Int32)) dX12_isCounted_10 (by decide) ?_
    refine X_iload_n 1 dX12_isCounted_11 rfl rfl ?_
    obtain ⟨q2, e3, hm⟩ := ob hm
    refine X_cV0 (ci := 11) (kX12_fails d (by omega) G e3) ml_X12_238 mi_X12_fails rfl cf_11 (g_K123 G) rfl rfl (Nat.le_refl _) ⟨Nat.le_refl _, Nat.le_refl _⟩ (Nat.le_of_ble_eq_true rfl) dX12_isCounted_12 ?_
    refine X_aload_n 0 dX12_isCounted_15 rfl rfl rfl ?_
    refine X_dup dX12_isCounted_16 rfl ?_
    refine X_getI fl_X12_235 (g_K123 G) rfl dX12_isCounted_17 ?_
    refine X_iconst (v := (1 : Int32)) dX12_isCounted_20 (by decide) ?_
    refine X_iadd dX12_isCounted_21 ?_
    refine X_putI fl_X12_235 (g_K123 G) rfl rfl dX12_isCounted_22 ?_
    replace hm := Option.some.inj hm
    subst hm
    exact X_vret dX12_isCounted_25 rfl
def mX12_digits_58 (b25 : (Nat → Nat → Int32) → Int32 → Int32 → Int32 → Option (Int32 × (Nat → Nat → Int32))) (e72 : (Nat → Nat → Int32) → Int32 → Int32 → Int32 → Option (Int32 × (Nat → Nat → Int32))) (I : Nat → Nat → Int32) (a1 : Int32) (a2 : Int32) (t0 : Int32) : Option (Int32 × (Nat → Nat → Int32)) := (b25 (xu I 123 28 ((I 123 28) + (1 : Int32))) a1 a2 t0)
set_option maxHeartbeats 400000 in
set_option maxRecDepth 100000 in
theorem kX12_digits_58 {E : xE} {B : Nat} {n : Nat} {K : Nat → Nat × Nat} {P : Nat → Nat → Nat} {I : Nat → Nat → Int32} {L : Nat → Nat → Int64}  {b25 : (Nat → Nat → Int32) → Int32 → Int32 → Int32 → Option (Int32 × (Nat → Nat → Int32))} {e72 : (Nat → Nat → Int32) → Int32 → Int32 → Int32 → Option (Int32 × (Nat → Nat → Int32))} {a1 : Int32} {a2 : Int32} {t0 : Int32} {q : Int32 × (Nat → Nat → Int32)} (d : Nat) (hd : 2 ≤ d) (G : GW K P)  (hb25 : ∀ (I : Nat → Nat → Int32) (a1 : Int32) (a2 : Int32) (a3 : Int32), b25 I a1 a2 a3 = some q → X E B d 0 0 yX12_digits cX12_digits 4 (some .int) (some (.int q.1), (n, K, P, q.2, L)) 25 [(0, .ref 123), (1, .int a1), (2, .int a2), (3, .int a3)] [] 0 0 (n, K, P, I, L)) (he72 : ∀ (I : Nat → Nat → Int32) (a1 : Int32) (a2 : Int32) (a3 : Int32), e72 I a1 a2 a3 = some q → X E B d 0 0 yX12_digits cX12_digits 4 (some .int) (some (.int q.1), (n, K, P, q.2, L)) 72 [(0, .ref 123), (1, .int a1), (2, .int a2), (3, .int a3)] [] 0 0 (n, K, P, I, L))  (hm : mX12_digits_58 b25 e72 I a1 a2 t0 = some q) : X E B d 0 0 yX12_digits cX12_digits 4 (some .int) (some (.int q.1), (n, K, P, q.2, L)) 58 [(0, .ref 123), (1, .int a1), (2, .int a2)] [.int t0] 0 0 (n, K, P, I, L) := by
  obtain ⟨d, rfl⟩ : ∃ d0, d = d0 + 1 := ⟨d - 1, by omega⟩
  unfold mX12_digits_58 at hm
  refine X_istore_n (lv' := [(3, .int t0), (0, .ref 123), (1, .int a1), (2, .int a2)]) dX12_digits_58 rfl (by decide) rfl ?_
  refine X_aload_n 1 dX12_digits_59 rfl rfl rfl ?_
  refine X_dup dX12_digits_60 rfl ?_
  refine X_getI fl_X12_202 (g_K123 G) rfl dX12_digits_61 ?_
  refine X_iconst (v := (1 : Int32)) dX12_digits_64 (by decide) ?_
  refine X_iadd dX12_digits_65 ?_
  refine X_putI fl_X12_202 (g_K123 G) rfl rfl dX12_digits_66 ?_
  refine X_goto (tgt := 25) dX12_digits_69 (by decide) ?_
  exact X_lv [1, 2, 3, 0] rfl (hb25 _ _ _ _ hm)
def mX12_digits_25  (e72 : (Nat → Nat → Int32) → Int32 → Int32 → Int32 → Option (Int32 × (Nat → Nat → Int32))) : Nat → (Nat → Nat → Int32) → Int32 → Int32 → Int32 → Option (Int32 × (Nat → Nat → Int32))
  | 0, _, _, _, _ => none
  | f + 1, I, a1, a2, a3 => (Option.bind (mX12_isDigit I) (fun q4 => (if q4 = 0 then (e72 I a1 a2 a3) else (if (5 : Int32) ≤ ((I 123 28) - a2) then (mX12_digits_58 (fun (I : Nat → Nat → Int32) (a1 : Int32) (a2 : Int32) (a3 : Int32) => mX12_digits_25 e72 f I a1 a2 a3) e72 I a1 a2 a3) else (Option.bind (mX12_sign I) (fun q8 => (mX12_digits_58 (fun (I : Nat → Nat → Int32) (a1 : Int32) (a2 : Int32) (a3 : Int32) => mX12_digits_25 e72 f I a1 a2 a3) e72 I a1 a2 ((((10 : Int32) * a3) + q8) - (48 : Int32)))))))))
set_option maxHeartbeats 400000 in
set_option maxRecDepth 100000 in
theorem kX12_digits_25 {E : xE} {B : Nat} {n : Nat} {K : Nat → Nat × Nat} {P : Nat → Nat → Nat} {L : Nat → Nat → Int64}  {e72 : (Nat → Nat → Int32) → Int32 → Int32 → Int32 → Option (Int32 × (Nat → Nat → Int32))} {q : Int32 × (Nat → Nat → Int32)} (d : Nat) (hd : 2 ≤ d) (G : GW K P)  (he72 : ∀ (I : Nat → Nat → Int32) (a1 : Int32) (a2 : Int32) (a3 : Int32), e72 I a1 a2 a3 = some q → X E B d 0 0 yX12_digits cX12_digits 4 (some .int) (some (.int q.1), (n, K, P, q.2, L)) 72 [(0, .ref 123), (1, .int a1), (2, .int a2), (3, .int a3)] [] 0 0 (n, K, P, I, L)) : ∀ (f : Nat) (I : Nat → Nat → Int32) (a1 : Int32) (a2 : Int32) (a3 : Int32), mX12_digits_25 e72 f I a1 a2 a3 = some q → X E B d 0 0 yX12_digits cX12_digits 4 (some .int) (some (.int q.1), (n, K, P, q.2, L)) 25 [(0, .ref 123), (1, .int a1), (2, .int a2), (3, .int a3)] [] 0 0 (n, K, P, I, L) := by
  obtain ⟨d, rfl⟩ : ∃ d0, d = d0 + 1 := ⟨d - 1, by omega⟩
  intro f
  induction f with
  | zero => intro _ _ _ _ hm; exact nomatch (show (none : Option (Int32 × (Nat → Nat → Int32))) = some q from hm)
  | succ f ih =>
    intro I a1 a2 a3 hm
    rw [mX12_digits_25] at hm
    refine X_aload_n 0 dX12_digits_25 rfl rfl rfl ?_
    obtain ⟨q4, e5, hm⟩ := ob hm
    refine X_cV1 (ci := 11) (kX12_isDigit d (by omega) G e5) ml_X12_242 mi_X12_isDigit rfl cf_11 (g_K123 G) rfl rfl (Nat.le_refl _) ⟨Nat.le_refl _, Nat.le_refl _⟩ (Nat.le_of_ble_eq_true rfl) dX12_digits_26 ?_
    refine X_if_eq (tgt := 72) dX12_digits_29 (by decide) (fun c6 => ?_) (fun c6 => ?_)
    · replace hm := ip c6 hm
      exact he72 _ _ _ _ hm
    · replace hm := iq c6 hm
      refine X_aload_n 0 dX12_digits_32 rfl rfl rfl ?_
      refine X_getI fl_X12_202 (g_K123 G) rfl dX12_digits_33 ?_
      refine X_iload_n 2 dX12_digits_36 rfl rfl ?_
      refine X_isub dX12_digits_37 ?_
      refine X_iconst (v := (5 : Int32)) dX12_digits_38 (by decide) ?_
      refine X_icmp_ge (tgt := 57) dX12_digits_39 (by decide) (fun c7 => ?_) (fun c7 => ?_)
      · replace hm := ip c7 hm
        refine X_iload_n 3 dX12_digits_57 rfl rfl ?_
        exact X_lv [0, 1, 2] rfl (kX12_digits_58 _ hd G ih he72 hm)
      · replace hm := iq c7 hm
        refine X_bipush (v := (10 : Int32)) dX12_digits_42 (by decide) ?_
        refine X_iload_n 3 dX12_digits_44 rfl rfl ?_
        refine X_imul dX12_digits_45 ?_
        refine X_aload_n 0 dX12_digits_46 rfl rfl rfl ?_
        obtain ⟨q8, e9, hm⟩ := ob hm
        refine X_cV1 (ci := 11) (kX12_sign d (by omega) G e9) ml_X12_205 mi_X12_sign rfl cf_11 (g_K123 G) rfl rfl (Nat.le_refl _) ⟨Nat.le_refl _, Nat.le_refl _⟩ (Nat.le_of_ble_eq_true rfl) dX12_digits_47 ?_
        refine X_iadd dX12_digits_50 ?_
        refine X_bipush (v := (48 : Int32)) dX12_digits_51 (by decide) ?_
        refine X_isub dX12_digits_53 ?_
        refine X_goto (tgt := 58) dX12_digits_54 (by decide) ?_
        exact X_lv [0, 1, 2] rfl (kX12_digits_58 _ hd G ih he72 hm)
def mX12_digits_87  (I : Nat → Nat → Int32) (a2 : Int32) (a3 : Int32) : Option (Int32 × (Nat → Nat → Int32)) := (Option.bind (mX12_fails I (1 : Int32) a2) (fun q12 => (some (a3, q12))))
set_option maxHeartbeats 400000 in
set_option maxRecDepth 100000 in
theorem kX12_digits_87 {E : xE} {B : Nat} {n : Nat} {K : Nat → Nat × Nat} {P : Nat → Nat → Nat} {I : Nat → Nat → Int32} {L : Nat → Nat → Int64}   {a2 : Int32} {a3 : Int32} {q : Int32 × (Nat → Nat → Int32)} (d : Nat) (hd : 2 ≤ d) (G : GW K P)    (hm : mX12_digits_87 I a2 a3 = some q) : X E B d 0 0 yX12_digits cX12_digits 4 (some .int) (some (.int q.1), (n, K, P, q.2, L)) 87 [(0, .ref 123), (2, .int a2), (3, .int a3)] [] 0 0 (n, K, P, I, L) := by
  obtain ⟨d, rfl⟩ : ∃ d0, d = d0 + 1 := ⟨d - 1, by omega⟩
  unfold mX12_digits_87 at hm
  refine X_aload_n 0 dX12_digits_87 rfl rfl rfl ?_
  refine X_iconst (v := (1 : Int32)) dX12_digits_88 (by decide) ?_
  refine X_iload_n 1 dX12_digits_89 rfl rfl ?_
  obtain ⟨q12, e13, hm⟩ := ob hm
  refine X_cV0 (ci := 11) (kX12_fails d (by omega) G e13) ml_X12_238 mi_X12_fails rfl cf_11 (g_K123 G) rfl rfl (Nat.le_refl _) ⟨Nat.le_refl _, Nat.le_refl _⟩ (Nat.le_of_ble_eq_true rfl) dX12_digits_90 ?_
  refine X_iload_n 2 dX12_digits_93 rfl rfl ?_
  replace hm := Option.some.inj hm
  subst hm
  exact X_iret dX12_digits_94 rfl
def mX12_digits  (I : Nat → Nat → Int32) (a1 : Int32) : Option (Int32 × (Nat → Nat → Int32)) := (Option.bind (mX12_isDigit I) (fun q1 => (if q1 = 0 then (Option.bind (mX12_fails I (0 : Int32) (I 123 28)) (fun q15 => (some ((0 : Int32), q15)))) else (mX12_digits_25 (fun (I_10 : (Nat → Nat → Int32)) (a1_10 : Int32) (a2_10 : Int32) (a3_10 : Int32) => (if (5 : Int32) < ((I_10 123 28) - a2_10) then (mX12_digits_87 I_10 a2_10 a3_10) else (if a3_10 ≤ a1_10 then (some (a3_10, I_10)) else (mX12_digits_87 I_10 a2_10 a3_10)))) xf I a1 (I 123 28) (0 : Int32)))))
set_option maxHeartbeats 400000 in
set_option maxRecDepth 100000 in
theorem kX12_digits {E : xE} {B : Nat} {n : Nat} {K : Nat → Nat × Nat} {P : Nat → Nat → Nat} {I : Nat → Nat → Int32} {L : Nat → Nat → Int64}  {a1 : Int32} {q : Int32 × (Nat → Nat → Int32)} (d : Nat) (hd : 2 ≤ d) (G : GW K P)   (hm : mX12_digits I a1 = some q) : MX E B d 0 0 yX12_digits cX12_digits 4 (some .int) [.ref 123, .int a1] (n, K, P, I, L) (some (.int q.1), (n, K, P, q.2, L)) := by
  refine MX_of (lv := [(0, .ref 123), (1, .int a1)]) (by decide +kernel) (Nat.le_of_ble_eq_true rfl) rfl ?_
  obtain ⟨d, rfl⟩ : ∃ d0, d = d0 + 1 := ⟨d - 1, by omega⟩
  unfold mX12_digits at hm
  refine X_aload_n 0 dX12_digits_0 rfl rfl rfl ?_
  obtain ⟨q1, e2, hm⟩ := ob hm
  refine X_cV1 (ci := 11) (kX12_isDigit d (by omega) G e2) ml_X12_242 mi_X12_isDigit rfl cf_11 (g_K123 G) rfl rfl (Nat.le_refl _) ⟨Nat.le_refl _, Nat.le_refl _⟩ (Nat.le_of_ble_eq_true rfl) dX12_digits_1 ?_
  refine X_if_ne (tgt := 18) dX12_digits_4 (by decide) (fun c3 => ?_) (fun c3 => ?_)
  · replace hm := iq c3 hm
    refine X_aload_n 0 dX12_digits_18 rfl rfl rfl ?_
    refine X_getI fl_X12_202 (g_K123 G) rfl dX12_digits_19 ?_
    refine X_istore_n (lv' := [(2, .int (I 123 28)), (0, .ref 123), (1, .int a1)]) dX12_digits_22 rfl (by decide) rfl ?_
    refine X_iconst (v := (0 : Int32)) dX12_digits_23 (by decide) ?_
    refine X_istore_n (lv' := [(3, .int (0 : Int32)), (2, .int (I 123 28)), (0, .ref 123), (1, .int a1)]) dX12_digits_24 rfl (by decide) rfl ?_
    refine X_lv [2, 3, 1, 0] rfl (kX12_digits_25 _ hd G (fun I_10 a1_10 a2_10 a3_10 hm => ?_) xf _ _ _ _  hm)
    refine X_aload_n 0 dX12_digits_72 rfl rfl rfl ?_
    refine X_getI fl_X12_202 (g_K123 G) rfl dX12_digits_73 ?_
    refine X_iload_n 2 dX12_digits_76 rfl rfl ?_
    refine X_isub dX12_digits_77 ?_
    refine X_iconst (v := (5 : Int32)) dX12_digits_78 (by decide) ?_
    refine X_icmp_gt (tgt := 87) dX12_digits_79 (by decide) (fun c11 => ?_) (fun c11 => ?_)
    · replace hm := ip c11 hm
      exact X_lv [0, 2, 3] rfl (kX12_digits_87 _ hd G hm)
    · replace hm := iq c11 hm
      refine X_iload_n 3 dX12_digits_82 rfl rfl ?_
      refine X_iload_n 1 dX12_digits_83 rfl rfl ?_
      refine X_icmp_le (tgt := 93) dX12_digits_84 (by decide) (fun c14 => ?_) (fun c14 => ?_)
      · replace hm := ip c14 hm
        refine X_iload_n 3 dX12_digits_93 rfl rfl ?_
        replace hm := Option.some.inj hm
        subst hm
        exact X_iret dX12_digits_94 rfl
      · replace hm := iq c14 hm
        exact X_lv [0, 2, 3] rfl (kX12_digits_87 _ hd G hm)
  · replace hm := ip c3 hm
    refine X_aload_n 0 dX12_digits_7 rfl rfl rfl ?_
    refine X_iconst (v := (0 : Int32)) dX12_digits_8 (by decide) ?_
    refine X_aload_n 0 dX12_digits_9 rfl rfl rfl ?_
    refine X_getI fl_X12_202 (g_K123 G) rfl dX12_digits_10 ?_
    obtain ⟨q15, e16, hm⟩ := ob hm
    refine X_cV0 (ci := 11) (kX12_fails d (by omega) G e16) ml_X12_238 mi_X12_fails rfl cf_11 (g_K123 G) rfl rfl (Nat.le_refl _) ⟨Nat.le_refl _, Nat.le_refl _⟩ (Nat.le_of_ble_eq_true rfl) dX12_digits_13 ?_
    refine X_iconst (v := (0 : Int32)) dX12_digits_16 (by decide) ?_
    replace hm := Option.some.inj hm
    subst hm
    exact X_iret dX12_digits_17 rfl
def mX12_value_37  (e62 : (Nat → Nat → Int32) → Int32 → Int32 → Option ((Nat → Nat → Int32))) : Nat → (Nat → Nat → Int32) → Int32 → Int32 → Option ((Nat → Nat → Int32))
  | 0, _, _, _ => none
  | f + 1, I, a1, a2 => (if (I 123 36) ≤ a2 then (e62 I a1 a2) else (Option.bind (mX12_wordOf a2) (fun q7 => (Option.bind (mX12_stood I q7) (fun q9 => (if q9 = 0 then (mX12_value_37 e62 f I a1 (a2 + 1)) else (e62 I a1 a2)))))))
set_option maxHeartbeats 400000 in
set_option maxRecDepth 100000 in
theorem kX12_value_37 {E : xE} {B : Nat} {n : Nat} {K : Nat → Nat × Nat} {P : Nat → Nat → Nat} {L : Nat → Nat → Int64}  {e62 : (Nat → Nat → Int32) → Int32 → Int32 → Option ((Nat → Nat → Int32))} {q : (Nat → Nat → Int32)} (d : Nat) (hd : 6 ≤ d) (G : GW K P)  (he62 : ∀ (I : Nat → Nat → Int32) (a1 : Int32) (a2 : Int32), e62 I a1 a2 = some q → X E B d 0 0 yX12_value cX12_value 3 (none : Option Jvm.ClassFile.FieldType) (none, (n, K, P, q, L)) 62 [(0, .ref 123), (1, .int a1), (2, .int a2)] [] 0 0 (n, K, P, I, L)) : ∀ (f : Nat) (I : Nat → Nat → Int32) (a1 : Int32) (a2 : Int32), mX12_value_37 e62 f I a1 a2 = some q → X E B d 0 0 yX12_value cX12_value 3 (none : Option Jvm.ClassFile.FieldType) (none, (n, K, P, q, L)) 37 [(0, .ref 123), (1, .int a1), (2, .int a2)] [] 0 0 (n, K, P, I, L) := by
  obtain ⟨d, rfl⟩ : ∃ d0, d = d0 + 1 := ⟨d - 1, by omega⟩
  intro f
  induction f with
  | zero => intro _ _ _ hm; exact nomatch (show (none : Option ((Nat → Nat → Int32))) = some q from hm)
  | succ f ih =>
    intro I a1 a2 hm
    rw [mX12_value_37] at hm
    refine X_iload_n 2 dX12_value_37 rfl rfl ?_
    refine X_aload_n 0 dX12_value_38 rfl rfl rfl ?_
    refine X_getI fl_X12_88 (g_K123 G) rfl dX12_value_39 ?_
    refine X_icmp_ge (tgt := 62) dX12_value_42 (by decide) (fun c6 => ?_) (fun c6 => ?_)
    · replace hm := ip c6 hm
      exact he62 _ _ _ hm
    · replace hm := iq c6 hm
      refine X_aload_n 0 dX12_value_45 rfl rfl rfl ?_
      refine X_iload_n 2 dX12_value_46 rfl rfl ?_
      obtain ⟨q7, e8, hm⟩ := ob hm
      refine X_cS1 (kX12_wordOf d (by omega) G e8) ml_X12_257 ms_X12_wordOf rfl rfl (Nat.le_refl _) ⟨Nat.le_refl _, Nat.le_refl _⟩ (Nat.le_of_ble_eq_true rfl) dX12_value_47 ?_
      obtain ⟨q9, e10, hm⟩ := ob hm
      refine X_cV1 (ci := 11) (kX12_stood d (by omega) G (rs_X12_wordOf e8) e10) ml_X12_225 mi_X12_stood rfl cf_11 (g_K123 G) rfl rfl (Nat.le_refl _) ⟨Nat.le_refl _, Nat.le_refl _⟩ (Nat.le_of_ble_eq_true rfl) dX12_value_50 ?_
      refine X_if_ne (tgt := 62) dX12_value_53 (by decide) (fun c11 => ?_) (fun c11 => ?_)
      · replace hm := iq c11 hm
        exact he62 _ _ _ hm
      · replace hm := ip c11 hm
        refine X_iinc (lv' := [(2, .int (a2 + 1)), (0, .ref 123), (1, .int a1)]) 2 dX12_value_56 rfl rfl (by decide) rfl ?_
        refine X_goto (tgt := 37) dX12_value_59 (by decide) ?_
        exact X_lv [1, 2, 0] rfl (ih _ _ _ hm)
def mX12_value_62  (I : Nat → Nat → Int32) (a1 : Int32) (a2 : Int32) : Option ((Nat → Nat → Int32)) := (if a2 = (I 123 36) then (Option.bind (mX12_fails I (0 : Int32) a1) (fun q22 => (some q22))) else (Option.bind (mX12_isCounted I a1) (fun q14 => (Option.bind (mX12_wordOf a2) (fun q16 => (Option.bind (mJ0_length_8abf5 q16) (fun q18 => (Option.bind (mX12_entry (xu q14 123 28 ((q14 123 28) + q18)) (1 : Int32) a2) (fun q20 => (some q20))))))))))
set_option maxHeartbeats 400000 in
set_option maxRecDepth 100000 in
theorem kX12_value_62 {E : xE} {B : Nat} {n : Nat} {K : Nat → Nat × Nat} {P : Nat → Nat → Nat} {I : Nat → Nat → Int32} {L : Nat → Nat → Int64}   {a1 : Int32} {a2 : Int32} {q : (Nat → Nat → Int32)} (d : Nat) (hd : 6 ≤ d) (G : GW K P)    (hm : mX12_value_62 I a1 a2 = some q) : X E B d 0 0 yX12_value cX12_value 3 (none : Option Jvm.ClassFile.FieldType) (none, (n, K, P, q, L)) 62 [(0, .ref 123), (1, .int a1), (2, .int a2)] [] 0 0 (n, K, P, I, L) := by
  obtain ⟨d, rfl⟩ : ∃ d0, d = d0 + 1 := ⟨d - 1, by omega⟩
  unfold mX12_value_62 at hm
  refine X_iload_n 2 dX12_value_62 rfl rfl ?_
  refine X_aload_n 0 dX12_value_63 rfl rfl rfl ?_
  refine X_getI fl_X12_88 (g_K123 G) rfl dX12_value_64 ?_
  refine X_icmp_ne (tgt := 77) dX12_value_67 (by decide) (fun c13 => ?_) (fun c13 => ?_)
  · replace hm := iq c13 hm
    refine X_aload_n 0 dX12_value_77 rfl rfl rfl ?_
    refine X_iload_n 1 dX12_value_78 rfl rfl ?_
    obtain ⟨q14, e15, hm⟩ := ob hm
    refine X_cV0 (ci := 11) (kX12_isCounted d (by omega) G e15) ml_X12_251 mi_X12_isCounted rfl cf_11 (g_K123 G) rfl rfl (Nat.le_refl _) ⟨Nat.le_refl _, Nat.le_refl _⟩ (Nat.le_of_ble_eq_true rfl) dX12_value_79 ?_
    refine X_aload_n 0 dX12_value_82 rfl rfl rfl ?_
    refine X_dup dX12_value_83 rfl ?_
    refine X_getI fl_X12_202 (g_K123 G) rfl dX12_value_84 ?_
    refine X_iload_n 2 dX12_value_87 rfl rfl ?_
    obtain ⟨q16, e17, hm⟩ := ob hm
    refine X_cS1 (kX12_wordOf d (by omega) G e17) ml_X12_257 ms_X12_wordOf rfl rfl (Nat.le_refl _) ⟨Nat.le_refl _, Nat.le_refl _⟩ (Nat.le_of_ble_eq_true rfl) dX12_value_88 ?_
    obtain ⟨q18, e19, hm⟩ := ob hm
    refine X_cT1 (kJ0_length_8abf5 d (by omega) G (rs_X12_wordOf e17) e19) ml_X12_213 mi_J0_length_8abf5 rfl (rs_X12_wordOf e17) rfl rfl (Nat.le_refl _) ⟨Nat.le_refl _, Nat.le_refl _⟩ (Nat.le_of_ble_eq_true rfl) dX12_value_91 ?_
    refine X_iadd dX12_value_94 ?_
    refine X_putI fl_X12_202 (g_K123 G) rfl rfl dX12_value_95 ?_
    refine X_aload_n 0 dX12_value_98 rfl rfl rfl ?_
    refine X_iconst (v := (1 : Int32)) dX12_value_99 (by decide) ?_
    refine X_iload_n 2 dX12_value_100 rfl rfl ?_
    obtain ⟨q20, e21, hm⟩ := ob hm
    refine X_cV0 (ci := 11) (kX12_entry d (by omega) G e21) ml_X12_254 mi_X12_entry rfl cf_11 (g_K123 G) rfl rfl (Nat.le_refl _) ⟨Nat.le_refl _, Nat.le_refl _⟩ (Nat.le_of_ble_eq_true rfl) dX12_value_101 ?_
    replace hm := Option.some.inj hm
    subst hm
    exact X_vret dX12_value_104 rfl
  · replace hm := ip c13 hm
    refine X_aload_n 0 dX12_value_70 rfl rfl rfl ?_
    refine X_iconst (v := (0 : Int32)) dX12_value_71 (by decide) ?_
    refine X_iload_n 1 dX12_value_72 rfl rfl ?_
    obtain ⟨q22, e23, hm⟩ := ob hm
    refine X_cV0 (ci := 11) (kX12_fails d (by omega) G e23) ml_X12_238 mi_X12_fails rfl cf_11 (g_K123 G) rfl rfl (Nat.le_refl _) ⟨Nat.le_refl _, Nat.le_refl _⟩ (Nat.le_of_ble_eq_true rfl) dX12_value_73 ?_
    replace hm := Option.some.inj hm
    subst hm
    exact X_vret dX12_value_76 rfl
def mX12_value  (I : Nat → Nat → Int32) : Option ((Nat → Nat → Int32)) := (Option.bind (mX12_blanks I) (fun q1 => (Option.bind (mX12_isDigit q1) (fun q3 => (if q3 = 0 then (mX12_value_37 (fun (I_12 : (Nat → Nat → Int32)) (a1_12 : Int32) (a2_12 : Int32) => (mX12_value_62 I_12 a1_12 a2_12)) xf q1 (q1 123 28) (0 : Int32)) else (Option.bind (mX12_digits q1 (99999 : Int32)) (fun q24 => (Option.bind (mX12_isCounted q24.2 (q1 123 28)) (fun q26 => (Option.bind (mX12_entry q26 (0 : Int32) q24.1) (fun q28 => (some q28))))))))))))
set_option maxHeartbeats 400000 in
set_option maxRecDepth 100000 in
theorem kX12_value {E : xE} {B : Nat} {n : Nat} {K : Nat → Nat × Nat} {P : Nat → Nat → Nat} {I : Nat → Nat → Int32} {L : Nat → Nat → Int64}   {q : (Nat → Nat → Int32)} (d : Nat) (hd : 6 ≤ d) (G : GW K P)   (hm : mX12_value I = some q) : MX E B d 0 0 yX12_value cX12_value 3 (none : Option Jvm.ClassFile.FieldType) [.ref 123] (n, K, P, I, L) (none, (n, K, P, q, L)) := by
  refine MX_of (lv := [(0, .ref 123)]) (by decide +kernel) (Nat.le_of_ble_eq_true rfl) rfl ?_
  obtain ⟨d, rfl⟩ : ∃ d0, d = d0 + 1 := ⟨d - 1, by omega⟩
  unfold mX12_value at hm
  refine X_aload_n 0 dX12_value_0 rfl rfl rfl ?_
  obtain ⟨q1, e2, hm⟩ := ob hm
  refine X_cV0 (ci := 11) (kX12_blanks d (by omega) G e2) ml_X12_222 mi_X12_blanks rfl cf_11 (g_K123 G) rfl rfl (Nat.le_refl _) ⟨Nat.le_refl _, Nat.le_refl _⟩ (Nat.le_of_ble_eq_true rfl) dX12_value_1 ?_
  refine X_aload_n 0 dX12_value_4 rfl rfl rfl ?_
  refine X_getI fl_X12_202 (g_K123 G) rfl dX12_value_5 ?_
  refine X_istore_n (lv' := [(1, .int (q1 123 28)), (0, .ref 123)]) dX12_value_8 rfl (by decide) rfl ?_
  refine X_aload_n 1 dX12_value_9 rfl rfl rfl ?_
  obtain ⟨q3, e4, hm⟩ := ob hm
  refine X_cV1 (ci := 11) (kX12_isDigit d (by omega) G e4) ml_X12_242 mi_X12_isDigit rfl cf_11 (g_K123 G) rfl rfl (Nat.le_refl _) ⟨Nat.le_refl _, Nat.le_refl _⟩ (Nat.le_of_ble_eq_true rfl) dX12_value_10 ?_
  refine X_if_eq (tgt := 35) dX12_value_13 (by decide) (fun c5 => ?_) (fun c5 => ?_)
  · replace hm := ip c5 hm
    refine X_iconst (v := (0 : Int32)) dX12_value_35 (by decide) ?_
    refine X_istore_n (lv' := [(2, .int (0 : Int32)), (1, .int (q1 123 28)), (0, .ref 123)]) dX12_value_36 rfl (by decide) rfl ?_
    refine X_lv [2, 1, 0] rfl (kX12_value_37 _ hd G (fun I_12 a1_12 a2_12 hm => ?_) xf _ _ _  hm)
    exact kX12_value_62 _ hd G hm
  · replace hm := iq c5 hm
    refine X_aload_n 1 dX12_value_16 rfl rfl rfl ?_
    refine X_ldc lc_X12_246 dX12_value_17 ?_
    obtain ⟨q24, e25, hm⟩ := ob hm
    refine X_cV1 (ci := 11) (kX12_digits d (by omega) G e25) ml_X12_247 mi_X12_digits rfl cf_11 (g_K123 G) rfl rfl (Nat.le_refl _) ⟨Nat.le_refl _, Nat.le_refl _⟩ (Nat.le_of_ble_eq_true rfl) dX12_value_19 ?_
    refine X_istore_n (lv' := [(2, .int q24.1), (1, .int (q1 123 28)), (0, .ref 123)]) dX12_value_22 rfl (by decide) rfl ?_
    refine X_aload_n 2 dX12_value_23 rfl rfl rfl ?_
    refine X_iload_n 1 dX12_value_24 rfl rfl ?_
    obtain ⟨q26, e27, hm⟩ := ob hm
    refine X_cV0 (ci := 11) (kX12_isCounted d (by omega) G e27) ml_X12_251 mi_X12_isCounted rfl cf_11 (g_K123 G) rfl rfl (Nat.le_refl _) ⟨Nat.le_refl _, Nat.le_refl _⟩ (Nat.le_of_ble_eq_true rfl) dX12_value_25 ?_
    refine X_aload_n 2 dX12_value_28 rfl rfl rfl ?_
    refine X_iconst (v := (0 : Int32)) dX12_value_29 (by decide) ?_
    refine X_iload_n 0 dX12_value_30 rfl rfl ?_
    obtain ⟨q28, e29, hm⟩ := ob hm
    refine X_cV0 (ci := 11) (kX12_entry d (by omega) G e29) ml_X12_254 mi_X12_entry rfl cf_11 (g_K123 G) rfl rfl (Nat.le_refl _) ⟨Nat.le_refl _, Nat.le_refl _⟩ (Nat.le_of_ble_eq_true rfl) dX12_value_31 ?_
    replace hm := Option.some.inj hm
    subst hm
    exact X_vret dX12_value_34 rfl
def mX12_term_72 (b8 : (Nat → Nat → Int32) → Option ((Nat → Nat → Int32))) (I : Nat → Nat → Int32) (t0 : Int32) : Option ((Nat → Nat → Int32)) := (Option.bind (mX12_value (xu I 123 28 ((I 123 28) + (1 : Int32)))) (fun q15 => (Option.bind (mX12_entry q15 t0 (0 : Int32)) (fun q17 => (Option.bind (mX12_blanks q17) (fun q19 => (b8 q19)))))))
set_option maxHeartbeats 400000 in
set_option maxRecDepth 100000 in
theorem kX12_term_72 {E : xE} {B : Nat} {n : Nat} {K : Nat → Nat × Nat} {P : Nat → Nat → Nat} {I : Nat → Nat → Int32} {L : Nat → Nat → Int64}  {b8 : (Nat → Nat → Int32) → Option ((Nat → Nat → Int32))} {t0 : Int32} {q : (Nat → Nat → Int32)} (d : Nat) (hd : 7 ≤ d) (G : GW K P)  (hb8 : ∀ (I : Nat → Nat → Int32), b8 I = some q → X E B d 0 0 yX12_term cX12_term 2 (none : Option Jvm.ClassFile.FieldType) (none, (n, K, P, q, L)) 8 [(0, .ref 123)] [] 0 0 (n, K, P, I, L))  (hm : mX12_term_72 b8 I t0 = some q) : X E B d 0 0 yX12_term cX12_term 2 (none : Option Jvm.ClassFile.FieldType) (none, (n, K, P, q, L)) 72 [(0, .ref 123)] [.int t0] 0 0 (n, K, P, I, L) := by
  obtain ⟨d, rfl⟩ : ∃ d0, d = d0 + 1 := ⟨d - 1, by omega⟩
  unfold mX12_term_72 at hm
  refine X_istore_n (lv' := [(1, .int t0), (0, .ref 123)]) dX12_term_72 rfl (by decide) rfl ?_
  refine X_aload_n 1 dX12_term_73 rfl rfl rfl ?_
  refine X_dup dX12_term_74 rfl ?_
  refine X_getI fl_X12_202 (g_K123 G) rfl dX12_term_75 ?_
  refine X_iconst (v := (1 : Int32)) dX12_term_78 (by decide) ?_
  refine X_iadd dX12_term_79 ?_
  refine X_putI fl_X12_202 (g_K123 G) rfl rfl dX12_term_80 ?_
  refine X_aload_n 1 dX12_term_83 rfl rfl rfl ?_
  obtain ⟨q15, e16, hm⟩ := ob hm
  refine X_cV0 (ci := 11) (kX12_value d (by omega) G e16) ml_X12_261 mi_X12_value rfl cf_11 (g_K123 G) rfl rfl (Nat.le_refl _) ⟨Nat.le_refl _, Nat.le_refl _⟩ (Nat.le_of_ble_eq_true rfl) dX12_term_84 ?_
  refine X_aload_n 1 dX12_term_87 rfl rfl rfl ?_
  refine X_iload_n 0 dX12_term_88 rfl rfl ?_
  refine X_iconst (v := (0 : Int32)) dX12_term_89 (by decide) ?_
  obtain ⟨q17, e18, hm⟩ := ob hm
  refine X_cV0 (ci := 11) (kX12_entry d (by omega) G e18) ml_X12_254 mi_X12_entry rfl cf_11 (g_K123 G) rfl rfl (Nat.le_refl _) ⟨Nat.le_refl _, Nat.le_refl _⟩ (Nat.le_of_ble_eq_true rfl) dX12_term_90 ?_
  refine X_aload_n 1 dX12_term_93 rfl rfl rfl ?_
  obtain ⟨q19, e20, hm⟩ := ob hm
  refine X_cV0 (ci := 11) (kX12_blanks d (by omega) G e20) ml_X12_222 mi_X12_blanks rfl cf_11 (g_K123 G) rfl rfl (Nat.le_refl _) ⟨Nat.le_refl _, Nat.le_refl _⟩ (Nat.le_of_ble_eq_true rfl) dX12_term_94 ?_
  refine X_goto (tgt := 8) dX12_term_97 (by decide) ?_
  exact X_lv [1] rfl (hb8 _ hm)
def mX12_term_42 (b8 : (Nat → Nat → Int32) → Option ((Nat → Nat → Int32))) (I : Nat → Nat → Int32) : Option ((Nat → Nat → Int32)) := (Option.bind (mX12_sign I) (fun q9 => (if q9 = (42 : Int32) then (mX12_term_72 b8 I (13 : Int32)) else (Option.bind (mX12_sign I) (fun q12 => (if q12 = (47 : Int32) then (mX12_term_72 b8 I (14 : Int32)) else (mX12_term_72 b8 I (15 : Int32))))))))
set_option maxHeartbeats 400000 in
set_option maxRecDepth 100000 in
theorem kX12_term_42 {E : xE} {B : Nat} {n : Nat} {K : Nat → Nat × Nat} {P : Nat → Nat → Nat} {I : Nat → Nat → Int32} {L : Nat → Nat → Int64}  {b8 : (Nat → Nat → Int32) → Option ((Nat → Nat → Int32))}  {q : (Nat → Nat → Int32)} (d : Nat) (hd : 7 ≤ d) (G : GW K P)  (hb8 : ∀ (I : Nat → Nat → Int32), b8 I = some q → X E B d 0 0 yX12_term cX12_term 2 (none : Option Jvm.ClassFile.FieldType) (none, (n, K, P, q, L)) 8 [(0, .ref 123)] [] 0 0 (n, K, P, I, L))  (hm : mX12_term_42 b8 I = some q) : X E B d 0 0 yX12_term cX12_term 2 (none : Option Jvm.ClassFile.FieldType) (none, (n, K, P, q, L)) 42 [(0, .ref 123)] [] 0 0 (n, K, P, I, L) := by
  obtain ⟨d, rfl⟩ : ∃ d0, d = d0 + 1 := ⟨d - 1, by omega⟩
  unfold mX12_term_42 at hm
  refine X_aload_n 0 dX12_term_42 rfl rfl rfl ?_
  obtain ⟨q9, e10, hm⟩ := ob hm
  refine X_cV1 (ci := 11) (kX12_sign d (by omega) G e10) ml_X12_205 mi_X12_sign rfl cf_11 (g_K123 G) rfl rfl (Nat.le_refl _) ⟨Nat.le_refl _, Nat.le_refl _⟩ (Nat.le_of_ble_eq_true rfl) dX12_term_43 ?_
  refine X_bipush (v := (42 : Int32)) dX12_term_46 (by decide) ?_
  refine X_icmp_ne (tgt := 56) dX12_term_48 (by decide) (fun c11 => ?_) (fun c11 => ?_)
  · replace hm := iq c11 hm
    refine X_aload_n 0 dX12_term_56 rfl rfl rfl ?_
    obtain ⟨q12, e13, hm⟩ := ob hm
    refine X_cV1 (ci := 11) (kX12_sign d (by omega) G e13) ml_X12_205 mi_X12_sign rfl cf_11 (g_K123 G) rfl rfl (Nat.le_refl _) ⟨Nat.le_refl _, Nat.le_refl _⟩ (Nat.le_of_ble_eq_true rfl) dX12_term_57 ?_
    refine X_bipush (v := (47 : Int32)) dX12_term_60 (by decide) ?_
    refine X_icmp_ne (tgt := 70) dX12_term_62 (by decide) (fun c14 => ?_) (fun c14 => ?_)
    · replace hm := iq c14 hm
      refine X_bipush (v := (15 : Int32)) dX12_term_70 (by decide) ?_
      exact kX12_term_72 _ hd G hb8 hm
    · replace hm := ip c14 hm
      refine X_bipush (v := (14 : Int32)) dX12_term_65 (by decide) ?_
      refine X_goto (tgt := 72) dX12_term_67 (by decide) ?_
      exact kX12_term_72 _ hd G hb8 hm
  · replace hm := ip c11 hm
    refine X_bipush (v := (13 : Int32)) dX12_term_51 (by decide) ?_
    refine X_goto (tgt := 72) dX12_term_53 (by decide) ?_
    exact kX12_term_72 _ hd G hb8 hm
def mX12_term_8   : Nat → (Nat → Nat → Int32) → Option ((Nat → Nat → Int32))
  | 0, _ => none
  | f + 1, I => (if (I 123 29) = 0 then (Option.bind (mX12_sign I) (fun q6 => (if q6 = (42 : Int32) then (mX12_term_42 (fun (I : Nat → Nat → Int32) => mX12_term_8  f I) I) else (Option.bind (mX12_sign I) (fun q21 => (if q21 = (47 : Int32) then (mX12_term_42 (fun (I : Nat → Nat → Int32) => mX12_term_8  f I) I) else (Option.bind (mX12_sign I) (fun q24 => (if q24 = (37 : Int32) then (mX12_term_42 (fun (I : Nat → Nat → Int32) => mX12_term_8  f I) I) else (some I)))))))))) else (some I))
set_option maxHeartbeats 400000 in
set_option maxRecDepth 100000 in
theorem kX12_term_8 {E : xE} {B : Nat} {n : Nat} {K : Nat → Nat × Nat} {P : Nat → Nat → Nat} {L : Nat → Nat → Int64}   {q : (Nat → Nat → Int32)} (d : Nat) (hd : 7 ≤ d) (G : GW K P)   : ∀ (f : Nat) (I : Nat → Nat → Int32), mX12_term_8 f I = some q → X E B d 0 0 yX12_term cX12_term 2 (none : Option Jvm.ClassFile.FieldType) (none, (n, K, P, q, L)) 8 [(0, .ref 123)] [] 0 0 (n, K, P, I, L) := by
  obtain ⟨d, rfl⟩ : ∃ d0, d = d0 + 1 := ⟨d - 1, by omega⟩
  intro f
  induction f with
  | zero => intro _ hm; exact nomatch (show (none : Option ((Nat → Nat → Int32))) = some q from hm)
  | succ f ih =>
    intro I hm
    rw [mX12_term_8] at hm
    refine X_aload_n 0 dX12_term_8 rfl rfl rfl ?_
    refine X_getI fl_X12_199 (g_K123 G) rfl dX12_term_9 ?_
    refine X_if_ne (tgt := 100) dX12_term_12 (by decide) (fun c5 => ?_) (fun c5 => ?_)
    · replace hm := iq c5 hm
      replace hm := Option.some.inj hm
      subst hm
      exact X_vret dX12_term_100 rfl
    · replace hm := ip c5 hm
      refine X_aload_n 0 dX12_term_15 rfl rfl rfl ?_
      obtain ⟨q6, e7, hm⟩ := ob hm
      refine X_cV1 (ci := 11) (kX12_sign d (by omega) G e7) ml_X12_205 mi_X12_sign rfl cf_11 (g_K123 G) rfl rfl (Nat.le_refl _) ⟨Nat.le_refl _, Nat.le_refl _⟩ (Nat.le_of_ble_eq_true rfl) dX12_term_16 ?_
      refine X_bipush (v := (42 : Int32)) dX12_term_19 (by decide) ?_
      refine X_icmp_eq (tgt := 42) dX12_term_21 (by decide) (fun c8 => ?_) (fun c8 => ?_)
      · replace hm := ip c8 hm
        exact kX12_term_42 _ hd G ih hm
      · replace hm := iq c8 hm
        refine X_aload_n 0 dX12_term_24 rfl rfl rfl ?_
        obtain ⟨q21, e22, hm⟩ := ob hm
        refine X_cV1 (ci := 11) (kX12_sign d (by omega) G e22) ml_X12_205 mi_X12_sign rfl cf_11 (g_K123 G) rfl rfl (Nat.le_refl _) ⟨Nat.le_refl _, Nat.le_refl _⟩ (Nat.le_of_ble_eq_true rfl) dX12_term_25 ?_
        refine X_bipush (v := (47 : Int32)) dX12_term_28 (by decide) ?_
        refine X_icmp_eq (tgt := 42) dX12_term_30 (by decide) (fun c23 => ?_) (fun c23 => ?_)
        · replace hm := ip c23 hm
          exact kX12_term_42 _ hd G ih hm
        · replace hm := iq c23 hm
          refine X_aload_n 0 dX12_term_33 rfl rfl rfl ?_
          obtain ⟨q24, e25, hm⟩ := ob hm
          refine X_cV1 (ci := 11) (kX12_sign d (by omega) G e25) ml_X12_205 mi_X12_sign rfl cf_11 (g_K123 G) rfl rfl (Nat.le_refl _) ⟨Nat.le_refl _, Nat.le_refl _⟩ (Nat.le_of_ble_eq_true rfl) dX12_term_34 ?_
          refine X_bipush (v := (37 : Int32)) dX12_term_37 (by decide) ?_
          refine X_icmp_ne (tgt := 100) dX12_term_39 (by decide) (fun c26 => ?_) (fun c26 => ?_)
          · replace hm := iq c26 hm
            replace hm := Option.some.inj hm
            subst hm
            exact X_vret dX12_term_100 rfl
          · replace hm := ip c26 hm
            exact kX12_term_42 _ hd G ih hm
def mX12_term  (I : Nat → Nat → Int32) : Option ((Nat → Nat → Int32)) := (Option.bind (mX12_value I) (fun q1 => (Option.bind (mX12_blanks q1) (fun q3 => (mX12_term_8 xf q3)))))
set_option maxHeartbeats 400000 in
set_option maxRecDepth 100000 in
theorem kX12_term {E : xE} {B : Nat} {n : Nat} {K : Nat → Nat × Nat} {P : Nat → Nat → Nat} {I : Nat → Nat → Int32} {L : Nat → Nat → Int64}   {q : (Nat → Nat → Int32)} (d : Nat) (hd : 7 ≤ d) (G : GW K P)   (hm : mX12_term I = some q) : MX E B d 0 0 yX12_term cX12_term 2 (none : Option Jvm.ClassFile.FieldType) [.ref 123] (n, K, P, I, L) (none, (n, K, P, q, L)) := by
  refine MX_of (lv := [(0, .ref 123)]) (by decide +kernel) (Nat.le_of_ble_eq_true rfl) rfl ?_
  obtain ⟨d, rfl⟩ : ∃ d0, d = d0 + 1 := ⟨d - 1, by omega⟩
  unfold mX12_term at hm
  refine X_aload_n 0 dX12_term_0 rfl rfl rfl ?_
  obtain ⟨q1, e2, hm⟩ := ob hm
  refine X_cV0 (ci := 11) (kX12_value d (by omega) G e2) ml_X12_261 mi_X12_value rfl cf_11 (g_K123 G) rfl rfl (Nat.le_refl _) ⟨Nat.le_refl _, Nat.le_refl _⟩ (Nat.le_of_ble_eq_true rfl) dX12_term_1 ?_
  refine X_aload_n 0 dX12_term_4 rfl rfl rfl ?_
  obtain ⟨q3, e4, hm⟩ := ob hm
  refine X_cV0 (ci := 11) (kX12_blanks d (by omega) G e4) ml_X12_222 mi_X12_blanks rfl cf_11 (g_K123 G) rfl rfl (Nat.le_refl _) ⟨Nat.le_refl _, Nat.le_refl _⟩ (Nat.le_of_ble_eq_true rfl) dX12_term_5 ?_
  refine kX12_term_8 _ hd G xf _  hm
def mX12_sum_43 (b4 : (Nat → Nat → Int32) → Option ((Nat → Nat → Int32))) (I : Nat → Nat → Int32) (t0 : Int32) : Option ((Nat → Nat → Int32)) := (Option.bind (mX12_term (xu I 123 28 ((I 123 28) + (1 : Int32)))) (fun q10 => (Option.bind (mX12_entry q10 t0 (0 : Int32)) (fun q12 => (b4 q12)))))
set_option maxHeartbeats 400000 in
set_option maxRecDepth 100000 in
theorem kX12_sum_43 {E : xE} {B : Nat} {n : Nat} {K : Nat → Nat × Nat} {P : Nat → Nat → Nat} {I : Nat → Nat → Int32} {L : Nat → Nat → Int64}  {b4 : (Nat → Nat → Int32) → Option ((Nat → Nat → Int32))} {t0 : Int32} {q : (Nat → Nat → Int32)} (d : Nat) (hd : 8 ≤ d) (G : GW K P)  (hb4 : ∀ (I : Nat → Nat → Int32), b4 I = some q → X E B d 0 0 yX12_sum cX12_sum 2 (none : Option Jvm.ClassFile.FieldType) (none, (n, K, P, q, L)) 4 [(0, .ref 123)] [] 0 0 (n, K, P, I, L))  (hm : mX12_sum_43 b4 I t0 = some q) : X E B d 0 0 yX12_sum cX12_sum 2 (none : Option Jvm.ClassFile.FieldType) (none, (n, K, P, q, L)) 43 [(0, .ref 123)] [.int t0] 0 0 (n, K, P, I, L) := by
  obtain ⟨d, rfl⟩ : ∃ d0, d = d0 + 1 := ⟨d - 1, by omega⟩
  unfold mX12_sum_43 at hm
  refine X_istore_n (lv' := [(1, .int t0), (0, .ref 123)]) dX12_sum_43 rfl (by decide) rfl ?_
  refine X_aload_n 1 dX12_sum_44 rfl rfl rfl ?_
  refine X_dup dX12_sum_45 rfl ?_
  refine X_getI fl_X12_202 (g_K123 G) rfl dX12_sum_46 ?_
  refine X_iconst (v := (1 : Int32)) dX12_sum_49 (by decide) ?_
  refine X_iadd dX12_sum_50 ?_
  refine X_putI fl_X12_202 (g_K123 G) rfl rfl dX12_sum_51 ?_
  refine X_aload_n 1 dX12_sum_54 rfl rfl rfl ?_
  obtain ⟨q10, e11, hm⟩ := ob hm
  refine X_cV0 (ci := 11) (kX12_term d (by omega) G e11) ml_X12_263 mi_X12_term rfl cf_11 (g_K123 G) rfl rfl (Nat.le_refl _) ⟨Nat.le_refl _, Nat.le_refl _⟩ (Nat.le_of_ble_eq_true rfl) dX12_sum_55 ?_
  refine X_aload_n 1 dX12_sum_58 rfl rfl rfl ?_
  refine X_iload_n 0 dX12_sum_59 rfl rfl ?_
  refine X_iconst (v := (0 : Int32)) dX12_sum_60 (by decide) ?_
  obtain ⟨q12, e13, hm⟩ := ob hm
  refine X_cV0 (ci := 11) (kX12_entry d (by omega) G e13) ml_X12_254 mi_X12_entry rfl cf_11 (g_K123 G) rfl rfl (Nat.le_refl _) ⟨Nat.le_refl _, Nat.le_refl _⟩ (Nat.le_of_ble_eq_true rfl) dX12_sum_61 ?_
  refine X_goto (tgt := 4) dX12_sum_64 (by decide) ?_
  exact X_lv [1] rfl (hb4 _ hm)
def mX12_sum_29 (b4 : (Nat → Nat → Int32) → Option ((Nat → Nat → Int32))) (I : Nat → Nat → Int32) : Option ((Nat → Nat → Int32)) := (Option.bind (mX12_sign I) (fun q7 => (if q7 = (43 : Int32) then (mX12_sum_43 b4 I (2 : Int32)) else (mX12_sum_43 b4 I (3 : Int32)))))
set_option maxHeartbeats 400000 in
set_option maxRecDepth 100000 in
theorem kX12_sum_29 {E : xE} {B : Nat} {n : Nat} {K : Nat → Nat × Nat} {P : Nat → Nat → Nat} {I : Nat → Nat → Int32} {L : Nat → Nat → Int64}  {b4 : (Nat → Nat → Int32) → Option ((Nat → Nat → Int32))}  {q : (Nat → Nat → Int32)} (d : Nat) (hd : 8 ≤ d) (G : GW K P)  (hb4 : ∀ (I : Nat → Nat → Int32), b4 I = some q → X E B d 0 0 yX12_sum cX12_sum 2 (none : Option Jvm.ClassFile.FieldType) (none, (n, K, P, q, L)) 4 [(0, .ref 123)] [] 0 0 (n, K, P, I, L))  (hm : mX12_sum_29 b4 I = some q) : X E B d 0 0 yX12_sum cX12_sum 2 (none : Option Jvm.ClassFile.FieldType) (none, (n, K, P, q, L)) 29 [(0, .ref 123)] [] 0 0 (n, K, P, I, L) := by
  obtain ⟨d, rfl⟩ : ∃ d0, d = d0 + 1 := ⟨d - 1, by omega⟩
  unfold mX12_sum_29 at hm
  refine X_aload_n 0 dX12_sum_29 rfl rfl rfl ?_
  obtain ⟨q7, e8, hm⟩ := ob hm
  refine X_cV1 (ci := 11) (kX12_sign d (by omega) G e8) ml_X12_205 mi_X12_sign rfl cf_11 (g_K123 G) rfl rfl (Nat.le_refl _) ⟨Nat.le_refl _, Nat.le_refl _⟩ (Nat.le_of_ble_eq_true rfl) dX12_sum_30 ?_
  refine X_bipush (v := (43 : Int32)) dX12_sum_33 (by decide) ?_
  refine X_icmp_ne (tgt := 42) dX12_sum_35 (by decide) (fun c9 => ?_) (fun c9 => ?_)
  · replace hm := iq c9 hm
    refine X_iconst (v := (3 : Int32)) dX12_sum_42 (by decide) ?_
    exact kX12_sum_43 _ hd G hb4 hm
  · replace hm := ip c9 hm
    refine X_iconst (v := (2 : Int32)) dX12_sum_38 (by decide) ?_
    refine X_goto (tgt := 43) dX12_sum_39 (by decide) ?_
    exact kX12_sum_43 _ hd G hb4 hm
def mX12_sum_4   : Nat → (Nat → Nat → Int32) → Option ((Nat → Nat → Int32))
  | 0, _ => none
  | f + 1, I => (if (I 123 29) = 0 then (Option.bind (mX12_sign I) (fun q4 => (if q4 = (43 : Int32) then (mX12_sum_29 (fun (I : Nat → Nat → Int32) => mX12_sum_4  f I) I) else (Option.bind (mX12_sign I) (fun q14 => (if q14 = (45 : Int32) then (mX12_sum_29 (fun (I : Nat → Nat → Int32) => mX12_sum_4  f I) I) else (some I))))))) else (some I))
set_option maxHeartbeats 400000 in
set_option maxRecDepth 100000 in
theorem kX12_sum_4 {E : xE} {B : Nat} {n : Nat} {K : Nat → Nat × Nat} {P : Nat → Nat → Nat} {L : Nat → Nat → Int64}   {q : (Nat → Nat → Int32)} (d : Nat) (hd : 8 ≤ d) (G : GW K P)   : ∀ (f : Nat) (I : Nat → Nat → Int32), mX12_sum_4 f I = some q → X E B d 0 0 yX12_sum cX12_sum 2 (none : Option Jvm.ClassFile.FieldType) (none, (n, K, P, q, L)) 4 [(0, .ref 123)] [] 0 0 (n, K, P, I, L) := by
  obtain ⟨d, rfl⟩ : ∃ d0, d = d0 + 1 := ⟨d - 1, by omega⟩
  intro f
  induction f with
  | zero => intro _ hm; exact nomatch (show (none : Option ((Nat → Nat → Int32))) = some q from hm)
  | succ f ih =>
    intro I hm
    rw [mX12_sum_4] at hm
    refine X_aload_n 0 dX12_sum_4 rfl rfl rfl ?_
    refine X_getI fl_X12_199 (g_K123 G) rfl dX12_sum_5 ?_
    refine X_if_ne (tgt := 67) dX12_sum_8 (by decide) (fun c3 => ?_) (fun c3 => ?_)
    · replace hm := iq c3 hm
      replace hm := Option.some.inj hm
      subst hm
      exact X_vret dX12_sum_67 rfl
    · replace hm := ip c3 hm
      refine X_aload_n 0 dX12_sum_11 rfl rfl rfl ?_
      obtain ⟨q4, e5, hm⟩ := ob hm
      refine X_cV1 (ci := 11) (kX12_sign d (by omega) G e5) ml_X12_205 mi_X12_sign rfl cf_11 (g_K123 G) rfl rfl (Nat.le_refl _) ⟨Nat.le_refl _, Nat.le_refl _⟩ (Nat.le_of_ble_eq_true rfl) dX12_sum_12 ?_
      refine X_bipush (v := (43 : Int32)) dX12_sum_15 (by decide) ?_
      refine X_icmp_eq (tgt := 29) dX12_sum_17 (by decide) (fun c6 => ?_) (fun c6 => ?_)
      · replace hm := ip c6 hm
        exact kX12_sum_29 _ hd G ih hm
      · replace hm := iq c6 hm
        refine X_aload_n 0 dX12_sum_20 rfl rfl rfl ?_
        obtain ⟨q14, e15, hm⟩ := ob hm
        refine X_cV1 (ci := 11) (kX12_sign d (by omega) G e15) ml_X12_205 mi_X12_sign rfl cf_11 (g_K123 G) rfl rfl (Nat.le_refl _) ⟨Nat.le_refl _, Nat.le_refl _⟩ (Nat.le_of_ble_eq_true rfl) dX12_sum_21 ?_
        refine X_bipush (v := (45 : Int32)) dX12_sum_24 (by decide) ?_
        refine X_icmp_ne (tgt := 67) dX12_sum_26 (by decide) (fun c16 => ?_) (fun c16 => ?_)
        · replace hm := iq c16 hm
          replace hm := Option.some.inj hm
          subst hm
          exact X_vret dX12_sum_67 rfl
        · replace hm := ip c16 hm
          exact kX12_sum_29 _ hd G ih hm
def mX12_sum  (I : Nat → Nat → Int32) : Option ((Nat → Nat → Int32)) := (Option.bind (mX12_term I) (fun q1 => (mX12_sum_4 xf q1)))
set_option maxHeartbeats 400000 in
set_option maxRecDepth 100000 in
theorem kX12_sum {E : xE} {B : Nat} {n : Nat} {K : Nat → Nat × Nat} {P : Nat → Nat → Nat} {I : Nat → Nat → Int32} {L : Nat → Nat → Int64}   {q : (Nat → Nat → Int32)} (d : Nat) (hd : 8 ≤ d) (G : GW K P)   (hm : mX12_sum I = some q) : MX E B d 0 0 yX12_sum cX12_sum 2 (none : Option Jvm.ClassFile.FieldType) [.ref 123] (n, K, P, I, L) (none, (n, K, P, q, L)) := by
  refine MX_of (lv := [(0, .ref 123)]) (by decide +kernel) (Nat.le_of_ble_eq_true rfl) rfl ?_
  obtain ⟨d, rfl⟩ : ∃ d0, d = d0 + 1 := ⟨d - 1, by omega⟩
  unfold mX12_sum at hm
  refine X_aload_n 0 dX12_sum_0 rfl rfl rfl ?_
  obtain ⟨q1, e2, hm⟩ := ob hm
  refine X_cV0 (ci := 11) (kX12_term d (by omega) G e2) ml_X12_263 mi_X12_term rfl cf_11 (g_K123 G) rfl rfl (Nat.le_refl _) ⟨Nat.le_refl _, Nat.le_refl _⟩ (Nat.le_of_ble_eq_true rfl) dX12_sum_1 ?_
  refine kX12_sum_4 _ hd G xf _  hm
def mX12_compared_139  (I : Nat → Nat → Int32) (t0 : Int32) : Option ((Nat → Nat → Int32)) := (Option.bind (mX12_entry I t0 (0 : Int32)) (fun q15 => (some q15)))
set_option maxHeartbeats 400000 in
set_option maxRecDepth 100000 in
theorem kX12_compared_139 {E : xE} {B : Nat} {n : Nat} {K : Nat → Nat × Nat} {P : Nat → Nat → Nat} {I : Nat → Nat → Int32} {L : Nat → Nat → Int64}   {t0 : Int32} {q : (Nat → Nat → Int32)} (d : Nat) (hd : 9 ≤ d) (G : GW K P)    (hm : mX12_compared_139 I t0 = some q) : X E B d 0 0 yX12_compared cX12_compared 3 (none : Option Jvm.ClassFile.FieldType) (none, (n, K, P, q, L)) 139 [] [.int t0, .ref 123] 0 0 (n, K, P, I, L) := by
  obtain ⟨d, rfl⟩ : ∃ d0, d = d0 + 1 := ⟨d - 1, by omega⟩
  unfold mX12_compared_139 at hm
  refine X_iconst (v := (0 : Int32)) dX12_compared_139 (by decide) ?_
  obtain ⟨q15, e16, hm⟩ := ob hm
  refine X_cV0 (ci := 11) (kX12_entry d (by omega) G e16) ml_X12_254 mi_X12_entry rfl cf_11 (g_K123 G) rfl rfl (Nat.le_refl _) ⟨Nat.le_refl _, Nat.le_refl _⟩ (Nat.le_of_ble_eq_true rfl) dX12_compared_140 ?_
  replace hm := Option.some.inj hm
  subst hm
  exact X_vret dX12_compared_143 rfl
def mX12_compared_90  (I : Nat → Nat → Int32) (a1 : Int32) (a2 : Int32) (t0 : Int32) (t1 : Int32) : Option ((Nat → Nat → Int32)) := (Option.bind (mX12_sum (xu I 123 28 (t1 + t0))) (fun q10 => (if a1 = (61 : Int32) then (mX12_compared_139 q10 (6 : Int32)) else (if a1 = (60 : Int32) then (if a2 = 0 then (mX12_compared_139 q10 (4 : Int32)) else (mX12_compared_139 q10 (5 : Int32))) else (if a2 = 0 then (mX12_compared_139 q10 (8 : Int32)) else (mX12_compared_139 q10 (7 : Int32)))))))
set_option maxHeartbeats 400000 in
set_option maxRecDepth 100000 in
theorem kX12_compared_90 {E : xE} {B : Nat} {n : Nat} {K : Nat → Nat × Nat} {P : Nat → Nat → Nat} {I : Nat → Nat → Int32} {L : Nat → Nat → Int64}   {a1 : Int32} {a2 : Int32} {t0 : Int32} {t1 : Int32} {q : (Nat → Nat → Int32)} (d : Nat) (hd : 9 ≤ d) (G : GW K P)    (hm : mX12_compared_90 I a1 a2 t0 t1 = some q) : X E B d 0 0 yX12_compared cX12_compared 3 (none : Option Jvm.ClassFile.FieldType) (none, (n, K, P, q, L)) 90 [(0, .ref 123), (1, .int a1), (2, .int a2)] [.int t0, .int t1, .ref 123] 0 0 (n, K, P, I, L) := by
  obtain ⟨d, rfl⟩ : ∃ d0, d = d0 + 1 := ⟨d - 1, by omega⟩
  unfold mX12_compared_90 at hm
  refine X_iadd dX12_compared_90 ?_
  refine X_putI fl_X12_202 (g_K123 G) rfl rfl dX12_compared_91 ?_
  refine X_aload_n 0 dX12_compared_94 rfl rfl rfl ?_
  obtain ⟨q10, e11, hm⟩ := ob hm
  refine X_cV0 (ci := 11) (kX12_sum d (by omega) G e11) ml_X12_266 mi_X12_sum rfl cf_11 (g_K123 G) rfl rfl (Nat.le_refl _) ⟨Nat.le_refl _, Nat.le_refl _⟩ (Nat.le_of_ble_eq_true rfl) dX12_compared_95 ?_
  refine X_aload_n 0 dX12_compared_98 rfl rfl rfl ?_
  refine X_iload_n 1 dX12_compared_99 rfl rfl ?_
  refine X_bipush (v := (61 : Int32)) dX12_compared_100 (by decide) ?_
  refine X_icmp_ne (tgt := 110) dX12_compared_102 (by decide) (fun c12 => ?_) (fun c12 => ?_)
  · replace hm := iq c12 hm
    refine X_iload_n 1 dX12_compared_110 rfl rfl ?_
    refine X_bipush (v := (60 : Int32)) dX12_compared_111 (by decide) ?_
    refine X_icmp_ne (tgt := 128) dX12_compared_113 (by decide) (fun c13 => ?_) (fun c13 => ?_)
    · replace hm := iq c13 hm
      refine X_iload_n 2 dX12_compared_128 rfl rfl ?_
      refine X_if_eq (tgt := 137) dX12_compared_129 (by decide) (fun c14 => ?_) (fun c14 => ?_)
      · replace hm := ip c14 hm
        refine X_bipush (v := (8 : Int32)) dX12_compared_137 (by decide) ?_
        exact X_lv [] rfl (kX12_compared_139 _ hd G hm)
      · replace hm := iq c14 hm
        refine X_bipush (v := (7 : Int32)) dX12_compared_132 (by decide) ?_
        refine X_goto (tgt := 139) dX12_compared_134 (by decide) ?_
        exact X_lv [] rfl (kX12_compared_139 _ hd G hm)
    · replace hm := ip c13 hm
      refine X_iload_n 2 dX12_compared_116 rfl rfl ?_
      refine X_if_eq (tgt := 124) dX12_compared_117 (by decide) (fun c17 => ?_) (fun c17 => ?_)
      · replace hm := ip c17 hm
        refine X_iconst (v := (4 : Int32)) dX12_compared_124 (by decide) ?_
        refine X_goto (tgt := 139) dX12_compared_125 (by decide) ?_
        exact X_lv [] rfl (kX12_compared_139 _ hd G hm)
      · replace hm := iq c17 hm
        refine X_iconst (v := (5 : Int32)) dX12_compared_120 (by decide) ?_
        refine X_goto (tgt := 139) dX12_compared_121 (by decide) ?_
        exact X_lv [] rfl (kX12_compared_139 _ hd G hm)
  · replace hm := ip c12 hm
    refine X_bipush (v := (6 : Int32)) dX12_compared_105 (by decide) ?_
    refine X_goto (tgt := 139) dX12_compared_107 (by decide) ?_
    exact X_lv [] rfl (kX12_compared_139 _ hd G hm)
def mX12_compared_75  (I : Nat → Nat → Int32) (a1 : Int32) (t0 : Int32) : Option ((Nat → Nat → Int32)) := (if t0 = 0 then (mX12_compared_90 I a1 t0 (0 : Int32) (I 123 28)) else (mX12_compared_90 I a1 t0 (1 : Int32) (I 123 28)))
set_option maxHeartbeats 400000 in
set_option maxRecDepth 100000 in
theorem kX12_compared_75 {E : xE} {B : Nat} {n : Nat} {K : Nat → Nat × Nat} {P : Nat → Nat → Nat} {I : Nat → Nat → Int32} {L : Nat → Nat → Int64}   {a1 : Int32} {t0 : Int32} {q : (Nat → Nat → Int32)} (d : Nat) (hd : 9 ≤ d) (G : GW K P)    (hm : mX12_compared_75 I a1 t0 = some q) : X E B d 0 0 yX12_compared cX12_compared 3 (none : Option Jvm.ClassFile.FieldType) (none, (n, K, P, q, L)) 75 [(0, .ref 123), (1, .int a1)] [.int t0] 0 0 (n, K, P, I, L) := by
  obtain ⟨d, rfl⟩ : ∃ d0, d = d0 + 1 := ⟨d - 1, by omega⟩
  unfold mX12_compared_75 at hm
  refine X_istore_n (lv' := [(2, .int t0), (0, .ref 123), (1, .int a1)]) dX12_compared_75 rfl (by decide) rfl ?_
  refine X_aload_n 1 dX12_compared_76 rfl rfl rfl ?_
  refine X_dup dX12_compared_77 rfl ?_
  refine X_getI fl_X12_202 (g_K123 G) rfl dX12_compared_78 ?_
  refine X_iload_n 0 dX12_compared_81 rfl rfl ?_
  refine X_if_eq (tgt := 89) dX12_compared_82 (by decide) (fun c9 => ?_) (fun c9 => ?_)
  · replace hm := ip c9 hm
    refine X_iconst (v := (0 : Int32)) dX12_compared_89 (by decide) ?_
    exact X_lv [1, 2, 0] rfl (kX12_compared_90 _ hd G hm)
  · replace hm := iq c9 hm
    refine X_iconst (v := (1 : Int32)) dX12_compared_85 (by decide) ?_
    refine X_goto (tgt := 90) dX12_compared_86 (by decide) ?_
    exact X_lv [1, 2, 0] rfl (kX12_compared_90 _ hd G hm)
def mX12_compared_74  (I : Nat → Nat → Int32) (a1 : Int32) : Option ((Nat → Nat → Int32)) := (mX12_compared_75 I a1 (0 : Int32))
set_option maxHeartbeats 400000 in
set_option maxRecDepth 100000 in
theorem kX12_compared_74 {E : xE} {B : Nat} {n : Nat} {K : Nat → Nat × Nat} {P : Nat → Nat → Nat} {I : Nat → Nat → Int32} {L : Nat → Nat → Int64}   {a1 : Int32} {q : (Nat → Nat → Int32)} (d : Nat) (hd : 9 ≤ d) (G : GW K P)    (hm : mX12_compared_74 I a1 = some q) : X E B d 0 0 yX12_compared cX12_compared 3 (none : Option Jvm.ClassFile.FieldType) (none, (n, K, P, q, L)) 74 [(0, .ref 123), (1, .int a1)] [] 0 0 (n, K, P, I, L) := by
  obtain ⟨d, rfl⟩ : ∃ d0, d = d0 + 1 := ⟨d - 1, by omega⟩
  unfold mX12_compared_74 at hm
  refine X_iconst (v := (0 : Int32)) dX12_compared_74 (by decide) ?_
  exact kX12_compared_75 _ hd G hm
def mX12_compared_37  (I : Nat → Nat → Int32) (a1 : Int32) : Option ((Nat → Nat → Int32)) := (Option.bind (mX12_isCounted I (I 123 28)) (fun q6 => (if a1 = (61 : Int32) then (mX12_compared_74 (xu q6 123 28 ((q6 123 28) + (1 : Int32))) a1) else (Option.bind (mX12_sign (xu q6 123 28 ((q6 123 28) + (1 : Int32)))) (fun q18 => (if q18 = (61 : Int32) then (mX12_compared_75 (xu q6 123 28 ((q6 123 28) + (1 : Int32))) a1 (1 : Int32)) else (mX12_compared_74 (xu q6 123 28 ((q6 123 28) + (1 : Int32))) a1)))))))
set_option maxHeartbeats 400000 in
set_option maxRecDepth 100000 in
theorem kX12_compared_37 {E : xE} {B : Nat} {n : Nat} {K : Nat → Nat × Nat} {P : Nat → Nat → Nat} {I : Nat → Nat → Int32} {L : Nat → Nat → Int64}   {a1 : Int32} {q : (Nat → Nat → Int32)} (d : Nat) (hd : 9 ≤ d) (G : GW K P)    (hm : mX12_compared_37 I a1 = some q) : X E B d 0 0 yX12_compared cX12_compared 3 (none : Option Jvm.ClassFile.FieldType) (none, (n, K, P, q, L)) 37 [(0, .ref 123), (1, .int a1)] [] 0 0 (n, K, P, I, L) := by
  obtain ⟨d, rfl⟩ : ∃ d0, d = d0 + 1 := ⟨d - 1, by omega⟩
  unfold mX12_compared_37 at hm
  refine X_aload_n 0 dX12_compared_37 rfl rfl rfl ?_
  refine X_aload_n 0 dX12_compared_38 rfl rfl rfl ?_
  refine X_getI fl_X12_202 (g_K123 G) rfl dX12_compared_39 ?_
  obtain ⟨q6, e7, hm⟩ := ob hm
  refine X_cV0 (ci := 11) (kX12_isCounted d (by omega) G e7) ml_X12_251 mi_X12_isCounted rfl cf_11 (g_K123 G) rfl rfl (Nat.le_refl _) ⟨Nat.le_refl _, Nat.le_refl _⟩ (Nat.le_of_ble_eq_true rfl) dX12_compared_42 ?_
  refine X_aload_n 0 dX12_compared_45 rfl rfl rfl ?_
  refine X_dup dX12_compared_46 rfl ?_
  refine X_getI fl_X12_202 (g_K123 G) rfl dX12_compared_47 ?_
  refine X_iconst (v := (1 : Int32)) dX12_compared_50 (by decide) ?_
  refine X_iadd dX12_compared_51 ?_
  refine X_putI fl_X12_202 (g_K123 G) rfl rfl dX12_compared_52 ?_
  refine X_iload_n 1 dX12_compared_55 rfl rfl ?_
  refine X_bipush (v := (61 : Int32)) dX12_compared_56 (by decide) ?_
  refine X_icmp_eq (tgt := 74) dX12_compared_58 (by decide) (fun c8 => ?_) (fun c8 => ?_)
  · replace hm := ip c8 hm
    exact kX12_compared_74 _ hd G hm
  · replace hm := iq c8 hm
    refine X_aload_n 0 dX12_compared_61 rfl rfl rfl ?_
    obtain ⟨q18, e19, hm⟩ := ob hm
    refine X_cV1 (ci := 11) (kX12_sign d (by omega) G e19) ml_X12_205 mi_X12_sign rfl cf_11 (g_K123 G) rfl rfl (Nat.le_refl _) ⟨Nat.le_refl _, Nat.le_refl _⟩ (Nat.le_of_ble_eq_true rfl) dX12_compared_62 ?_
    refine X_bipush (v := (61 : Int32)) dX12_compared_65 (by decide) ?_
    refine X_icmp_ne (tgt := 74) dX12_compared_67 (by decide) (fun c20 => ?_) (fun c20 => ?_)
    · replace hm := iq c20 hm
      exact kX12_compared_74 _ hd G hm
    · replace hm := ip c20 hm
      refine X_iconst (v := (1 : Int32)) dX12_compared_70 (by decide) ?_
      refine X_goto (tgt := 75) dX12_compared_71 (by decide) ?_
      exact kX12_compared_75 _ hd G hm
def mX12_compared  (I : Nat → Nat → Int32) : Option ((Nat → Nat → Int32)) := (Option.bind (mX12_sum I) (fun q1 => (Option.bind (mX12_sign q1) (fun q3 => (if q3 = (60 : Int32) then (mX12_compared_37 q1 q3) else (if q3 = (61 : Int32) then (mX12_compared_37 q1 q3) else (if q3 = (62 : Int32) then (mX12_compared_37 q1 q3) else (Option.bind (mX12_fails q1 (0 : Int32) (q1 123 28)) (fun q23 => (some q23))))))))))
set_option maxHeartbeats 400000 in
set_option maxRecDepth 100000 in
theorem kX12_compared {E : xE} {B : Nat} {n : Nat} {K : Nat → Nat × Nat} {P : Nat → Nat → Nat} {I : Nat → Nat → Int32} {L : Nat → Nat → Int64}   {q : (Nat → Nat → Int32)} (d : Nat) (hd : 9 ≤ d) (G : GW K P)   (hm : mX12_compared I = some q) : MX E B d 0 0 yX12_compared cX12_compared 3 (none : Option Jvm.ClassFile.FieldType) [.ref 123] (n, K, P, I, L) (none, (n, K, P, q, L)) := by
  refine MX_of (lv := [(0, .ref 123)]) (by decide +kernel) (Nat.le_of_ble_eq_true rfl) rfl ?_
  obtain ⟨d, rfl⟩ : ∃ d0, d = d0 + 1 := ⟨d - 1, by omega⟩
  unfold mX12_compared at hm
  refine X_aload_n 0 dX12_compared_0 rfl rfl rfl ?_
  obtain ⟨q1, e2, hm⟩ := ob hm
  refine X_cV0 (ci := 11) (kX12_sum d (by omega) G e2) ml_X12_266 mi_X12_sum rfl cf_11 (g_K123 G) rfl rfl (Nat.le_refl _) ⟨Nat.le_refl _, Nat.le_refl _⟩ (Nat.le_of_ble_eq_true rfl) dX12_compared_1 ?_
  refine X_aload_n 0 dX12_compared_4 rfl rfl rfl ?_
  obtain ⟨q3, e4, hm⟩ := ob hm
  refine X_cV1 (ci := 11) (kX12_sign d (by omega) G e4) ml_X12_205 mi_X12_sign rfl cf_11 (g_K123 G) rfl rfl (Nat.le_refl _) ⟨Nat.le_refl _, Nat.le_refl _⟩ (Nat.le_of_ble_eq_true rfl) dX12_compared_5 ?_
  refine X_istore_n (lv' := [(1, .int q3), (0, .ref 123)]) dX12_compared_8 rfl (by decide) rfl ?_
  refine X_iload_n 0 dX12_compared_9 rfl rfl ?_
  refine X_bipush (v := (60 : Int32)) dX12_compared_10 (by decide) ?_
  refine X_icmp_eq (tgt := 37) dX12_compared_12 (by decide) (fun c5 => ?_) (fun c5 => ?_)
  · replace hm := ip c5 hm
    exact X_lv [1, 0] rfl (kX12_compared_37 _ hd G hm)
  · replace hm := iq c5 hm
    refine X_iload_n 0 dX12_compared_15 rfl rfl ?_
    refine X_bipush (v := (61 : Int32)) dX12_compared_16 (by decide) ?_
    refine X_icmp_eq (tgt := 37) dX12_compared_18 (by decide) (fun c21 => ?_) (fun c21 => ?_)
    · replace hm := ip c21 hm
      exact X_lv [1, 0] rfl (kX12_compared_37 _ hd G hm)
    · replace hm := iq c21 hm
      refine X_iload_n 0 dX12_compared_21 rfl rfl ?_
      refine X_bipush (v := (62 : Int32)) dX12_compared_22 (by decide) ?_
      refine X_icmp_eq (tgt := 37) dX12_compared_24 (by decide) (fun c22 => ?_) (fun c22 => ?_)
      · replace hm := ip c22 hm
        exact X_lv [1, 0] rfl (kX12_compared_37 _ hd G hm)
      · replace hm := iq c22 hm
        refine X_aload_n 1 dX12_compared_27 rfl rfl rfl ?_
        refine X_iconst (v := (0 : Int32)) dX12_compared_28 (by decide) ?_
        refine X_aload_n 1 dX12_compared_29 rfl rfl rfl ?_
        refine X_getI fl_X12_202 (g_K123 G) rfl dX12_compared_30 ?_
        obtain ⟨q23, e24, hm⟩ := ob hm
        refine X_cV0 (ci := 11) (kX12_fails d (by omega) G e24) ml_X12_238 mi_X12_fails rfl cf_11 (g_K123 G) rfl rfl (Nat.le_refl _) ⟨Nat.le_refl _, Nat.le_refl _⟩ (Nat.le_of_ble_eq_true rfl) dX12_compared_33 ?_
        replace hm := Option.some.inj hm
        subst hm
        exact X_vret dX12_compared_36 rfl

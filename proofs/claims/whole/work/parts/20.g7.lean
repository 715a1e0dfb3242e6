def mX12_streetClause_11  (e34 : (Nat → Nat → Int32) → Int32 → Int32 → Int32 → Option ((Nat → Nat → Int32))) : Nat → (Nat → Nat → Int32) → Int32 → Int32 → Int32 → Option ((Nat → Nat → Int32))
  | 0, _, _, _, _ => none
  | f + 1, I, a1, a2, a3 => (if (7 : Int32) ≤ a3 then (e34 I a1 a2 a3) else (Option.bind (mX12_streetWord a3) (fun q4 => (Option.bind (mX12_stood I q4) (fun q6 => (if q6 = 0 then (mX12_streetClause_11 e34 f I a1 a2 (a3 + 1)) else (e34 I a1 a2 a3)))))))
set_option maxHeartbeats 400000 in
set_option maxRecDepth 100000 in
theorem kX12_streetClause_11 {E : xE} {B : Nat} {n : Nat} {K : Nat → Nat × Nat} {P : Nat → Nat → Nat} {L : Nat → Nat → Int64}  {e34 : (Nat → Nat → Int32) → Int32 → Int32 → Int32 → Option ((Nat → Nat → Int32))} {q : (Nat → Nat → Int32)} (d : Nat) (hd : 6 ≤ d) (G : GW K P)  (he34 : ∀ (I : Nat → Nat → Int32) (a1 : Int32) (a2 : Int32) (a3 : Int32), e34 I a1 a2 a3 = some q → X E B d 0 0 yX12_streetClause cX12_streetClause 4 (none : Option Jvm.ClassFile.FieldType) (none, (n, K, P, q, L)) 34 [(0, .ref 123), (1, .int a1), (2, .int a2), (3, .int a3)] [] 0 0 (n, K, P, I, L)) : ∀ (f : Nat) (I : Nat → Nat → Int32) (a1 : Int32) (a2 : Int32) (a3 : Int32), mX12_streetClause_11 e34 f I a1 a2 a3 = some q → X E B d 0 0 yX12_streetClause cX12_streetClause 4 (none : Option Jvm.ClassFile.FieldType) (none, (n, K, P, q, L)) 11 [(0, .ref 123), (1, .int a1), (2, .int a2), (3, .int a3)] [] 0 0 (n, K, P, I, L) := by
  obtain ⟨d, rfl⟩ : ∃ d0, d = d0 + 1 := ⟨d - 1, by omega⟩
  intro f
  induction f with
  | zero => intro _ _ _ _ hm; exact nomatch (show (none : Option ((Nat → Nat → Int32))) = some q from hm)
  | succ f ih =>
    intro I a1 a2 a3 hm
    rw [mX12_streetClause_11] at hm
    refine X_iload_n 3 dX12_streetClause_11 rfl rfl ?_
    refine X_bipush (v := (7 : Int32)) dX12_streetClause_12 (by decide) ?_
    refine X_icmp_ge (tgt := 34) dX12_streetClause_14 (by decide) (fun c3 => ?_) (fun c3 => ?_)
    · replace hm := ip c3 hm
      exact he34 _ _ _ _ hm
    · replace hm := iq c3 hm
      refine X_aload_n 0 dX12_streetClause_17 rfl rfl rfl ?_
      refine X_iload_n 3 dX12_streetClause_18 rfl rfl ?_
      obtain ⟨q4, e5, hm⟩ := ob hm
      refine X_cS1 (kX12_streetWord d (by omega) G e5) ml_X12_313 ms_X12_streetWord rfl rfl (Nat.le_refl _) ⟨Nat.le_refl _, Nat.le_refl _⟩ (Nat.le_of_ble_eq_true rfl) dX12_streetClause_19 ?_
      obtain ⟨q6, e7, hm⟩ := ob hm
      refine X_cV1 (ci := 11) (kX12_stood d (by omega) G (rs_X12_streetWord e5) e7) ml_X12_225 mi_X12_stood rfl cf_11 (g_K123 G) rfl rfl (Nat.le_refl _) ⟨Nat.le_refl _, Nat.le_refl _⟩ (Nat.le_of_ble_eq_true rfl) dX12_streetClause_22 ?_
      refine X_if_ne (tgt := 34) dX12_streetClause_25 (by decide) (fun c8 => ?_) (fun c8 => ?_)
      · replace hm := iq c8 hm
        exact he34 _ _ _ _ hm
      · replace hm := ip c8 hm
        refine X_iinc (lv' := [(3, .int (a3 + 1)), (0, .ref 123), (1, .int a1), (2, .int a2)]) 3 dX12_streetClause_28 rfl rfl (by decide) rfl ?_
        refine X_goto (tgt := 11) dX12_streetClause_31 (by decide) ?_
        exact X_lv [1, 2, 3, 0] rfl (ih _ _ _ _ hm)
def mX12_streetClause_34  (I : Nat → Nat → Int32) (a1 : Int32) (a2 : Int32) (a3 : Int32) : Option ((Nat → Nat → Int32)) := (if a3 = (7 : Int32) then (Option.bind (mX12_fails I (0 : Int32) a2) (fun q22 => (some q22))) else (Option.bind (mX12_isFull I a3 a1) (fun q11 => (if q11 = 0 then (Option.bind (mX12_streetWord a3) (fun q14 => (Option.bind (mJ0_length_8abf5 q14) (fun q16 => (Option.bind (mX12_streetPart (xu I 123 28 ((I 123 28) + q16)) a3) (fun q18 => (some q18))))))) else (Option.bind (mX12_fails I (4 : Int32) a2) (fun q20 => (some q20)))))))
set_option maxHeartbeats 400000 in
set_option maxRecDepth 100000 in
theorem kX12_streetClause_34 {E : xE} {B : Nat} {n : Nat} {K : Nat → Nat × Nat} {P : Nat → Nat → Nat} {I : Nat → Nat → Int32} {L : Nat → Nat → Int64}   {a1 : Int32} {a2 : Int32} {a3 : Int32} {q : (Nat → Nat → Int32)} (d : Nat) (hd : 6 ≤ d) (G : GW K P)    (hm : mX12_streetClause_34 I a1 a2 a3 = some q) : X E B d 0 0 yX12_streetClause cX12_streetClause 4 (none : Option Jvm.ClassFile.FieldType) (none, (n, K, P, q, L)) 34 [(0, .ref 123), (1, .int a1), (2, .int a2), (3, .int a3)] [] 0 0 (n, K, P, I, L) := by
  obtain ⟨d, rfl⟩ : ∃ d0, d = d0 + 1 := ⟨d - 1, by omega⟩
  unfold mX12_streetClause_34 at hm
  refine X_iload_n 3 dX12_streetClause_34 rfl rfl ?_
  refine X_bipush (v := (7 : Int32)) dX12_streetClause_35 (by decide) ?_
  refine X_icmp_ne (tgt := 47) dX12_streetClause_37 (by decide) (fun c10 => ?_) (fun c10 => ?_)
  · replace hm := iq c10 hm
    refine X_aload_n 0 dX12_streetClause_47 rfl rfl rfl ?_
    refine X_iload_n 3 dX12_streetClause_48 rfl rfl ?_
    refine X_iload_n 1 dX12_streetClause_49 rfl rfl ?_
    obtain ⟨q11, e12, hm⟩ := ob hm
    refine X_cV1 (ci := 11) (kX12_isFull d (by omega) G e12) ml_X12_316 mi_X12_isFull rfl cf_11 (g_K123 G) rfl rfl (Nat.le_refl _) ⟨Nat.le_refl _, Nat.le_refl _⟩ (Nat.le_of_ble_eq_true rfl) dX12_streetClause_50 ?_
    refine X_if_eq (tgt := 63) dX12_streetClause_53 (by decide) (fun c13 => ?_) (fun c13 => ?_)
    · replace hm := ip c13 hm
      refine X_aload_n 0 dX12_streetClause_63 rfl rfl rfl ?_
      refine X_dup dX12_streetClause_64 rfl ?_
      refine X_getI fl_X12_202 (g_K123 G) rfl dX12_streetClause_65 ?_
      refine X_iload_n 3 dX12_streetClause_68 rfl rfl ?_
      obtain ⟨q14, e15, hm⟩ := ob hm
      refine X_cS1 (kX12_streetWord d (by omega) G e15) ml_X12_313 ms_X12_streetWord rfl rfl (Nat.le_refl _) ⟨Nat.le_refl _, Nat.le_refl _⟩ (Nat.le_of_ble_eq_true rfl) dX12_streetClause_69 ?_
      obtain ⟨q16, e17, hm⟩ := ob hm
      refine X_cT1 (kJ0_length_8abf5 d (by omega) G (rs_X12_streetWord e15) e17) ml_X12_213 mi_J0_length_8abf5 rfl (rs_X12_streetWord e15) rfl rfl (Nat.le_refl _) ⟨Nat.le_refl _, Nat.le_refl _⟩ (Nat.le_of_ble_eq_true rfl) dX12_streetClause_72 ?_
      refine X_iadd dX12_streetClause_75 ?_
      refine X_putI fl_X12_202 (g_K123 G) rfl rfl dX12_streetClause_76 ?_
      refine X_aload_n 0 dX12_streetClause_79 rfl rfl rfl ?_
      refine X_iload_n 3 dX12_streetClause_80 rfl rfl ?_
      obtain ⟨q18, e19, hm⟩ := ob hm
      refine X_cV0 (ci := 11) (kX12_streetPart d (by omega) G e19) ml_X12_320 mi_X12_streetPart rfl cf_11 (g_K123 G) rfl rfl (Nat.le_refl _) ⟨Nat.le_refl _, Nat.le_refl _⟩ (Nat.le_of_ble_eq_true rfl) dX12_streetClause_81 ?_
      replace hm := Option.some.inj hm
      subst hm
      exact X_vret dX12_streetClause_84 rfl
    · replace hm := iq c13 hm
      refine X_aload_n 0 dX12_streetClause_56 rfl rfl rfl ?_
      refine X_iconst (v := (4 : Int32)) dX12_streetClause_57 (by decide) ?_
      refine X_iload_n 2 dX12_streetClause_58 rfl rfl ?_
      obtain ⟨q20, e21, hm⟩ := ob hm
      refine X_cV0 (ci := 11) (kX12_fails d (by omega) G e21) ml_X12_238 mi_X12_fails rfl cf_11 (g_K123 G) rfl rfl (Nat.le_refl _) ⟨Nat.le_refl _, Nat.le_refl _⟩ (Nat.le_of_ble_eq_true rfl) dX12_streetClause_59 ?_
      replace hm := Option.some.inj hm
      subst hm
      exact X_vret dX12_streetClause_62 rfl
  · replace hm := ip c10 hm
    refine X_aload_n 0 dX12_streetClause_40 rfl rfl rfl ?_
    refine X_iconst (v := (0 : Int32)) dX12_streetClause_41 (by decide) ?_
    refine X_iload_n 2 dX12_streetClause_42 rfl rfl ?_
    obtain ⟨q22, e23, hm⟩ := ob hm
    refine X_cV0 (ci := 11) (kX12_fails d (by omega) G e23) ml_X12_238 mi_X12_fails rfl cf_11 (g_K123 G) rfl rfl (Nat.le_refl _) ⟨Nat.le_refl _, Nat.le_refl _⟩ (Nat.le_of_ble_eq_true rfl) dX12_streetClause_43 ?_
    replace hm := Option.some.inj hm
    subst hm
    exact X_vret dX12_streetClause_46 rfl
def mX12_streetClause  (I : Nat → Nat → Int32) (a1 : Int32) : Option ((Nat → Nat → Int32)) := (Option.bind (mX12_blanks I) (fun q1 => (mX12_streetClause_11 (fun (I_9 : (Nat → Nat → Int32)) (a1_9 : Int32) (a2_9 : Int32) (a3_9 : Int32) => (mX12_streetClause_34 I_9 a1_9 a2_9 a3_9)) xf q1 a1 (q1 123 28) (0 : Int32))))
set_option maxHeartbeats 400000 in
set_option maxRecDepth 100000 in
theorem kX12_streetClause {E : xE} {B : Nat} {n : Nat} {K : Nat → Nat × Nat} {P : Nat → Nat → Nat} {I : Nat → Nat → Int32} {L : Nat → Nat → Int64}  {a1 : Int32} {q : (Nat → Nat → Int32)} (d : Nat) (hd : 6 ≤ d) (G : GW K P)   (hm : mX12_streetClause I a1 = some q) : MX E B d 0 0 yX12_streetClause cX12_streetClause 4 (none : Option Jvm.ClassFile.FieldType) [.ref 123, .int a1] (n, K, P, I, L) (none, (n, K, P, q, L)) := by
  refine MX_of (lv := [(0, .ref 123), (1, .int a1)]) (by decide +kernel) (Nat.le_of_ble_eq_true rfl) rfl ?_
  obtain ⟨d, rfl⟩ : ∃ d0, d = d0 + 1 := ⟨d - 1, by omega⟩
  unfold mX12_streetClause at hm
  refine X_aload_n 0 dX12_streetClause_0 rfl rfl rfl ?_
  obtain ⟨q1, e2, hm⟩ := ob hm
  refine X_cV0 (ci := 11) (kX12_blanks d (by omega) G e2) ml_X12_222 mi_X12_blanks rfl cf_11 (g_K123 G) rfl rfl (Nat.le_refl _) ⟨Nat.le_refl _, Nat.le_refl _⟩ (Nat.le_of_ble_eq_true rfl) dX12_streetClause_1 ?_
  refine X_aload_n 0 dX12_streetClause_4 rfl rfl rfl ?_
  refine X_getI fl_X12_202 (g_K123 G) rfl dX12_streetClause_5 ?_
  refine X_istore_n (lv' := [(2, .int (q1 123 28)), (0, .ref 123), (1, .int a1)]) dX12_streetClause_8 rfl (by decide) rfl ?_
  refine X_iconst (v := (0 : Int32)) dX12_streetClause_9 (by decide) ?_
  refine X_istore_n (lv' := [(3, .int (0 : Int32)), (2, .int (q1 123 28)), (0, .ref 123), (1, .int a1)]) dX12_streetClause_10 rfl (by decide) rfl ?_
  refine X_lv [2, 3, 1, 0] rfl (kX12_streetClause_11 _ hd G (fun I_9 a1_9 a2_9 a3_9 hm => ?_) xf _ _ _ _  hm)
  exact kX12_streetClause_34 _ hd G hm
def mX12_copies_2   : Nat → (Nat → Nat → Int32) → Nat → Nat → Nat → Nat → Int32 → Option ((Nat → Nat → Int32))
  | 0, _, _, _, _, _, _ => none
  | f + 1, I, a0, z0, a1, z1, a2 => (if (nI z0) ≤ a2 then (some I) else (if inb a2 z0 = true then (if inb a2 z1 = true then (mX12_copies_2 f (xu I a1 (ix a2) (I a0 (ix a2))) a0 z0 a1 z1 (a2 + 1)) else none) else none))
set_option maxHeartbeats 400000 in
set_option maxRecDepth 100000 in
theorem kX12_copies_2 {E : xE} {B : Nat} {n : Nat} {K : Nat → Nat × Nat} {P : Nat → Nat → Nat} {L : Nat → Nat → Int64}   {q : (Nat → Nat → Int32)} (d : Nat) (hd : 0 ≤ d) (G : GW K P)   : ∀ (f : Nat) (I : Nat → Nat → Int32) (a0 : Nat) (z0 : Nat) (a1 : Nat) (z1 : Nat) (a2 : Int32), K a0 = (20, z0) → K a1 = (20, z1) → mX12_copies_2 f I a0 z0 a1 z1 a2 = some q → X E B d 0 0 yX12_copies cX12_copies 3 (none : Option Jvm.ClassFile.FieldType) (none, (n, K, P, q, L)) 2 [(0, .ref a0), (1, .ref a1), (2, .int a2)] [] 0 0 (n, K, P, I, L) := by
  intro f
  induction f with
  | zero => intro _ _ _ _ _ _ _ _ hm; exact nomatch (show (none : Option ((Nat → Nat → Int32))) = some q from hm)
  | succ f ih =>
    intro I a0 z0 a1 z1 a2 h0 h1 hm
    rw [mX12_copies_2] at hm
    refine X_iload_n 2 dX12_copies_2 rfl rfl ?_
    refine X_aload_n 0 dX12_copies_3 rfl rfl rfl ?_
    refine X_alen h0 (by decide) (by decide) dX12_copies_4 ?_
    refine X_icmp_ge (tgt := 20) dX12_copies_5 (by decide) (fun c1 => ?_) (fun c1 => ?_)
    · replace hm := ip c1 hm
      replace hm := Option.some.inj hm
      subst hm
      exact X_vret dX12_copies_20 rfl
    · replace hm := iq c1 hm
      refine X_aload_n 1 dX12_copies_8 rfl rfl rfl ?_
      refine X_iload_n 2 dX12_copies_9 rfl rfl ?_
      refine X_aload_n 0 dX12_copies_10 rfl rfl rfl ?_
      refine X_iload_n 2 dX12_copies_11 rfl rfl ?_
      obtain ⟨g2, hm⟩ := og hm
      refine X_ialdJ h0 g2 rfl dX12_copies_12 ?_
      obtain ⟨g3, hm⟩ := og hm
      refine X_iastJ h1 g3 rfl dX12_copies_13 ?_
      refine X_iinc (lv' := [(2, .int (a2 + 1)), (0, .ref a0), (1, .ref a1)]) 2 dX12_copies_14 rfl rfl (by decide) rfl ?_
      refine X_goto (tgt := 2) dX12_copies_17 (by decide) ?_
      exact X_lv [1, 2, 0] rfl (ih _ _ _ _ _ _ h0 h1 hm)
def mX12_copies  (I : Nat → Nat → Int32) (a0 : Nat) (z0 : Nat) (a1 : Nat) (z1 : Nat) : Option ((Nat → Nat → Int32)) := (mX12_copies_2 xf I a0 z0 a1 z1 (0 : Int32))
set_option maxHeartbeats 400000 in
set_option maxRecDepth 100000 in
theorem kX12_copies {E : xE} {B : Nat} {n : Nat} {K : Nat → Nat × Nat} {P : Nat → Nat → Nat} {I : Nat → Nat → Int32} {L : Nat → Nat → Int64}  {a0 : Nat} {z0 : Nat} {a1 : Nat} {z1 : Nat} {q : (Nat → Nat → Int32)} (d : Nat) (hd : 0 ≤ d) (G : GW K P)  (h0 : K a0 = (20, z0)) (h1 : K a1 = (20, z1)) (hm : mX12_copies I a0 z0 a1 z1 = some q) : MX E B d 0 0 yX12_copies cX12_copies 3 (none : Option Jvm.ClassFile.FieldType) [.ref a0, .ref a1] (n, K, P, I, L) (none, (n, K, P, q, L)) := by
  refine MX_of (lv := [(0, .ref a0), (1, .ref a1)]) (by decide +kernel) (Nat.le_of_ble_eq_true rfl) rfl ?_
  unfold mX12_copies at hm
  refine X_iconst (v := (0 : Int32)) dX12_copies_0 (by decide) ?_
  refine X_istore_n (lv' := [(2, .int (0 : Int32)), (0, .ref a0), (1, .ref a1)]) dX12_copies_1 rfl (by decide) rfl ?_
  refine X_lv [1, 2, 0] rfl (kX12_copies_2 _ hd G xf _ _ _ _ _ _ h0 h1 hm)
def mX12_goesOn_63  (I : Nat → Nat → Int32) (t0 : Int32) : Option (Int32 × (Nat → Nat → Int32)) := (if t0 = 0 ∨ t0 = 1 then (some (t0, (xu I 123 28 ((I 123 28) + (1 : Int32))))) else none)
set_option maxHeartbeats 400000 in
set_option maxRecDepth 100000 in
theorem kX12_goesOn_63 {E : xE} {B : Nat} {n : Nat} {K : Nat → Nat × Nat} {P : Nat → Nat → Nat} {I : Nat → Nat → Int32} {L : Nat → Nat → Int64}   {t0 : Int32} {q : Int32 × (Nat → Nat → Int32)} (d : Nat) (hd : 2 ≤ d) (G : GW K P)    (hm : mX12_goesOn_63 I t0 = some q) : X E B d 0 0 yX12_goesOn cX12_goesOn 2 (some .boolean) (some (.int q.1), (n, K, P, q.2, L)) 63 [(0, .ref 123)] [.int t0] 0 0 (n, K, P, I, L) := by
  obtain ⟨d, rfl⟩ : ∃ d0, d = d0 + 1 := ⟨d - 1, by omega⟩
  unfold mX12_goesOn_63 at hm
  refine X_istore_n (lv' := [(1, .int t0), (0, .ref 123)]) dX12_goesOn_63 rfl (by decide) rfl ?_
  refine X_aload_n 1 dX12_goesOn_64 rfl rfl rfl ?_
  refine X_dup dX12_goesOn_65 rfl ?_
  refine X_getI fl_X12_202 (g_K123 G) rfl dX12_goesOn_66 ?_
  refine X_iconst (v := (1 : Int32)) dX12_goesOn_69 (by decide) ?_
  refine X_iadd dX12_goesOn_70 ?_
  refine X_putI fl_X12_202 (g_K123 G) rfl rfl dX12_goesOn_71 ?_
  refine X_iload_n 0 dX12_goesOn_74 rfl rfl ?_
  obtain ⟨g5, hm⟩ := og hm
  replace hm := Option.some.inj hm
  subst hm
  exact X_zret dX12_goesOn_75 rfl (x_nz g5)
def mX12_goesOn_62  (I : Nat → Nat → Int32) : Option (Int32 × (Nat → Nat → Int32)) := (mX12_goesOn_63 I (0 : Int32))
set_option maxHeartbeats 400000 in
set_option maxRecDepth 100000 in
theorem kX12_goesOn_62 {E : xE} {B : Nat} {n : Nat} {K : Nat → Nat × Nat} {P : Nat → Nat → Nat} {I : Nat → Nat → Int32} {L : Nat → Nat → Int64}    {q : Int32 × (Nat → Nat → Int32)} (d : Nat) (hd : 2 ≤ d) (G : GW K P)    (hm : mX12_goesOn_62 I = some q) : X E B d 0 0 yX12_goesOn cX12_goesOn 2 (some .boolean) (some (.int q.1), (n, K, P, q.2, L)) 62 [(0, .ref 123)] [] 0 0 (n, K, P, I, L) := by
  obtain ⟨d, rfl⟩ : ∃ d0, d = d0 + 1 := ⟨d - 1, by omega⟩
  unfold mX12_goesOn_62 at hm
  refine X_iconst (v := (0 : Int32)) dX12_goesOn_62 (by decide) ?_
  exact kX12_goesOn_63 _ hd G hm
def mX12_goesOn_40  (I : Nat → Nat → Int32) : Option (Int32 × (Nat → Nat → Int32)) := (if (I 123 29) = 0 then (if (I 123 27) ≤ (I 123 28) then (mX12_goesOn_62 I) else (mX12_goesOn_63 I (1 : Int32))) else (mX12_goesOn_62 I))
set_option maxHeartbeats 400000 in
set_option maxRecDepth 100000 in
theorem kX12_goesOn_40 {E : xE} {B : Nat} {n : Nat} {K : Nat → Nat × Nat} {P : Nat → Nat → Nat} {I : Nat → Nat → Int32} {L : Nat → Nat → Int64}    {q : Int32 × (Nat → Nat → Int32)} (d : Nat) (hd : 2 ≤ d) (G : GW K P)    (hm : mX12_goesOn_40 I = some q) : X E B d 0 0 yX12_goesOn cX12_goesOn 2 (some .boolean) (some (.int q.1), (n, K, P, q.2, L)) 40 [(0, .ref 123)] [] 0 0 (n, K, P, I, L) := by
  obtain ⟨d, rfl⟩ : ∃ d0, d = d0 + 1 := ⟨d - 1, by omega⟩
  unfold mX12_goesOn_40 at hm
  refine X_aload_n 0 dX12_goesOn_40 rfl rfl rfl ?_
  refine X_getI fl_X12_199 (g_K123 G) rfl dX12_goesOn_41 ?_
  refine X_if_ne (tgt := 62) dX12_goesOn_44 (by decide) (fun c4 => ?_) (fun c4 => ?_)
  · replace hm := iq c4 hm
    exact kX12_goesOn_62 _ hd G hm
  · replace hm := ip c4 hm
    refine X_aload_n 0 dX12_goesOn_47 rfl rfl rfl ?_
    refine X_getI fl_X12_202 (g_K123 G) rfl dX12_goesOn_48 ?_
    refine X_aload_n 0 dX12_goesOn_51 rfl rfl rfl ?_
    refine X_getI fl_X12_168 (g_K123 G) rfl dX12_goesOn_52 ?_
    refine X_icmp_ge (tgt := 62) dX12_goesOn_55 (by decide) (fun c6 => ?_) (fun c6 => ?_)
    · replace hm := ip c6 hm
      exact kX12_goesOn_62 _ hd G hm
    · replace hm := iq c6 hm
      refine X_iconst (v := (1 : Int32)) dX12_goesOn_58 (by decide) ?_
      refine X_goto (tgt := 63) dX12_goesOn_59 (by decide) ?_
      exact kX12_goesOn_63 _ hd G hm
def mX12_goesOn  (I : Nat → Nat → Int32) : Option (Int32 × (Nat → Nat → Int32)) := (Option.bind (mX12_blanks I) (fun q1 => (if (q1 123 29) = 0 then (if (q1 123 27) ≤ (q1 123 28) then (mX12_goesOn_40 q1) else (Option.bind (mX12_sign q1) (fun q8 => (if q8 = (59 : Int32) then (mX12_goesOn_40 q1) else (Option.bind (mX12_fails q1 (0 : Int32) (q1 123 28)) (fun q11 => (mX12_goesOn_40 q11))))))) else (mX12_goesOn_40 q1))))
set_option maxHeartbeats 400000 in
set_option maxRecDepth 100000 in
theorem kX12_goesOn {E : xE} {B : Nat} {n : Nat} {K : Nat → Nat × Nat} {P : Nat → Nat → Nat} {I : Nat → Nat → Int32} {L : Nat → Nat → Int64}   {q : Int32 × (Nat → Nat → Int32)} (d : Nat) (hd : 2 ≤ d) (G : GW K P)   (hm : mX12_goesOn I = some q) : MX E B d 0 0 yX12_goesOn cX12_goesOn 2 (some .boolean) [.ref 123] (n, K, P, I, L) (some (.int q.1), (n, K, P, q.2, L)) := by
  refine MX_of (lv := [(0, .ref 123)]) (by decide +kernel) (Nat.le_of_ble_eq_true rfl) rfl ?_
  obtain ⟨d, rfl⟩ : ∃ d0, d = d0 + 1 := ⟨d - 1, by omega⟩
  unfold mX12_goesOn at hm
  refine X_aload_n 0 dX12_goesOn_0 rfl rfl rfl ?_
  obtain ⟨q1, e2, hm⟩ := ob hm
  refine X_cV0 (ci := 11) (kX12_blanks d (by omega) G e2) ml_X12_222 mi_X12_blanks rfl cf_11 (g_K123 G) rfl rfl (Nat.le_refl _) ⟨Nat.le_refl _, Nat.le_refl _⟩ (Nat.le_of_ble_eq_true rfl) dX12_goesOn_1 ?_
  refine X_aload_n 0 dX12_goesOn_4 rfl rfl rfl ?_
  refine X_getI fl_X12_199 (g_K123 G) rfl dX12_goesOn_5 ?_
  refine X_if_ne (tgt := 40) dX12_goesOn_8 (by decide) (fun c3 => ?_) (fun c3 => ?_)
  · replace hm := iq c3 hm
    exact kX12_goesOn_40 _ hd G hm
  · replace hm := ip c3 hm
    refine X_aload_n 0 dX12_goesOn_11 rfl rfl rfl ?_
    refine X_getI fl_X12_202 (g_K123 G) rfl dX12_goesOn_12 ?_
    refine X_aload_n 0 dX12_goesOn_15 rfl rfl rfl ?_
    refine X_getI fl_X12_168 (g_K123 G) rfl dX12_goesOn_16 ?_
    refine X_icmp_ge (tgt := 40) dX12_goesOn_19 (by decide) (fun c7 => ?_) (fun c7 => ?_)
    · replace hm := ip c7 hm
      exact kX12_goesOn_40 _ hd G hm
    · replace hm := iq c7 hm
      refine X_aload_n 0 dX12_goesOn_22 rfl rfl rfl ?_
      obtain ⟨q8, e9, hm⟩ := ob hm
      refine X_cV1 (ci := 11) (kX12_sign d (by omega) G e9) ml_X12_205 mi_X12_sign rfl cf_11 (g_K123 G) rfl rfl (Nat.le_refl _) ⟨Nat.le_refl _, Nat.le_refl _⟩ (Nat.le_of_ble_eq_true rfl) dX12_goesOn_23 ?_
      refine X_bipush (v := (59 : Int32)) dX12_goesOn_26 (by decide) ?_
      refine X_icmp_eq (tgt := 40) dX12_goesOn_28 (by decide) (fun c10 => ?_) (fun c10 => ?_)
      · replace hm := ip c10 hm
        exact kX12_goesOn_40 _ hd G hm
      · replace hm := iq c10 hm
        refine X_aload_n 0 dX12_goesOn_31 rfl rfl rfl ?_
        refine X_iconst (v := (0 : Int32)) dX12_goesOn_32 (by decide) ?_
        refine X_aload_n 0 dX12_goesOn_33 rfl rfl rfl ?_
        refine X_getI fl_X12_202 (g_K123 G) rfl dX12_goesOn_34 ?_
        obtain ⟨q11, e12, hm⟩ := ob hm
        refine X_cV0 (ci := 11) (kX12_fails d (by omega) G e12) ml_X12_238 mi_X12_fails rfl cf_11 (g_K123 G) rfl rfl (Nat.le_refl _) ⟨Nat.le_refl _, Nat.le_refl _⟩ (Nat.le_of_ble_eq_true rfl) dX12_goesOn_37 ?_
        exact kX12_goesOn_40 _ hd G hm
def mX12_starts  (I : Nat → Nat → Int32) : Option ((Nat → Nat → Int32)) := (some (xu (xu (xu (xu (xu I 123 28 (0 : Int32)) 123 29 (0 : Int32)) 123 32 (0 : Int32)) 123 33 (0 : Int32)) 123 34 (0 : Int32)))
set_option maxHeartbeats 400000 in
set_option maxRecDepth 100000 in
theorem kX12_starts {E : xE} {B : Nat} {n : Nat} {K : Nat → Nat × Nat} {P : Nat → Nat → Nat} {I : Nat → Nat → Int32} {L : Nat → Nat → Int64}   {q : (Nat → Nat → Int32)} (d : Nat) (hd : 0 ≤ d) (G : GW K P)   (hm : mX12_starts I = some q) : MX E B d 0 0 yX12_starts cX12_starts 1 (none : Option Jvm.ClassFile.FieldType) [.ref 123] (n, K, P, I, L) (none, (n, K, P, q, L)) := by
  refine MX_of (lv := [(0, .ref 123)]) (by decide +kernel) (Nat.le_of_ble_eq_true rfl) rfl ?_
  unfold mX12_starts at hm
  refine X_aload_n 0 dX12_starts_0 rfl rfl rfl ?_
  refine X_iconst (v := (0 : Int32)) dX12_starts_1 (by decide) ?_
  refine X_putI fl_X12_202 (g_K123 G) rfl rfl dX12_starts_2 ?_
  refine X_aload_n 0 dX12_starts_5 rfl rfl rfl ?_
  refine X_iconst (v := (0 : Int32)) dX12_starts_6 (by decide) ?_
  refine X_putI fl_X12_199 (g_K123 G) rfl rfl dX12_starts_7 ?_
  refine X_aload_n 0 dX12_starts_10 rfl rfl rfl ?_
  refine X_iconst (v := (0 : Int32)) dX12_starts_11 (by decide) ?_
  refine X_putI fl_X12_232 (g_K123 G) rfl rfl dX12_starts_12 ?_
  refine X_aload_n 0 dX12_starts_15 rfl rfl rfl ?_
  refine X_iconst (v := (0 : Int32)) dX12_starts_16 (by decide) ?_
  refine X_putI fl_X12_272 (g_K123 G) rfl rfl dX12_starts_17 ?_
  refine X_aload_n 0 dX12_starts_20 rfl rfl rfl ?_
  refine X_iconst (v := (0 : Int32)) dX12_starts_21 (by decide) ?_
  refine X_putI fl_X12_235 (g_K123 G) rfl rfl dX12_starts_22 ?_
  replace hm := Option.some.inj hm
  subst hm
  exact X_vret dX12_starts_25 rfl
def mX12_readsAll_6  (e25 : (Nat → Nat → Int32) → Option ((Nat → Nat → Int32))) : Nat → (Nat → Nat → Int32) → Int32 → Option ((Nat → Nat → Int32))
  | 0, _, _ => none
  | f + 1, I, a1 => (if (9 : Int32) ≤ a1 then (e25 I) else (if inb a1 9 = true then (mX12_readsAll_6 e25 f (xu I 141 (ix a1) (0 : Int32)) (a1 + 1)) else none))
set_option maxHeartbeats 400000 in
set_option maxRecDepth 100000 in
theorem kX12_readsAll_6 {E : xE} {B : Nat} {n : Nat} {K : Nat → Nat × Nat} {P : Nat → Nat → Nat} {L : Nat → Nat → Int64}  {e25 : (Nat → Nat → Int32) → Option ((Nat → Nat → Int32))} {q : (Nat → Nat → Int32)} (d : Nat) (hd : 7 ≤ d) (G : GW K P)  (he25 : ∀ (I : Nat → Nat → Int32), e25 I = some q → X E B d 0 0 yX12_readsAll cX12_readsAll 3 (none : Option Jvm.ClassFile.FieldType) (none, (n, K, P, q, L)) 25 [(0, .ref 123)] [] 0 0 (n, K, P, I, L)) : ∀ (f : Nat) (I : Nat → Nat → Int32) (a1 : Int32), mX12_readsAll_6 e25 f I a1 = some q → X E B d 0 0 yX12_readsAll cX12_readsAll 3 (none : Option Jvm.ClassFile.FieldType) (none, (n, K, P, q, L)) 6 [(0, .ref 123), (1, .int a1)] [] 0 0 (n, K, P, I, L) := by
  obtain ⟨d, rfl⟩ : ∃ d0, d = d0 + 1 := ⟨d - 1, by omega⟩
  intro f
  induction f with
  | zero => intro _ _ hm; exact nomatch (show (none : Option ((Nat → Nat → Int32))) = some q from hm)
  | succ f ih =>
    intro I a1 hm
    rw [mX12_readsAll_6] at hm
    refine X_iload_n 1 dX12_readsAll_6 rfl rfl ?_
    refine X_bipush (v := (9 : Int32)) dX12_readsAll_7 (by decide) ?_
    refine X_icmp_ge (tgt := 25) dX12_readsAll_9 (by decide) (fun c3 => ?_) (fun c3 => ?_)
    · replace hm := ip c3 hm
      exact X_lv [0] rfl (he25 _ hm)
    · replace hm := iq c3 hm
      refine X_aload_n 0 dX12_readsAll_12 rfl rfl rfl ?_
      refine X_getPe fl_X12_61 (g_K123 G) rfl (g_P123_18 G) dX12_readsAll_13 ?_
      refine X_iload_n 1 dX12_readsAll_16 rfl rfl ?_
      refine X_iconst (v := (0 : Int32)) dX12_readsAll_17 (by decide) ?_
      obtain ⟨g4, hm⟩ := og hm
      refine X_iastJ (g_K141 G) g4 rfl dX12_readsAll_18 ?_
      refine X_iinc (lv' := [(1, .int (a1 + 1)), (0, .ref 123)]) 1 dX12_readsAll_19 rfl rfl (by decide) rfl ?_
      refine X_goto (tgt := 6) dX12_readsAll_22 (by decide) ?_
      exact X_lv [1, 0] rfl (ih _ _ hm)
def mX12_readsAll_27  (e46 : (Nat → Nat → Int32) → Option ((Nat → Nat → Int32))) : Nat → (Nat → Nat → Int32) → Int32 → Option ((Nat → Nat → Int32))
  | 0, _, _ => none
  | f + 1, I, a1 => (if (16 : Int32) ≤ a1 then (e46 I) else (if inb a1 16 = true then (mX12_readsAll_27 e46 f (xu I 148 (ix a1) (0 : Int32)) (a1 + 1)) else none))
set_option maxHeartbeats 400000 in
set_option maxRecDepth 100000 in
theorem kX12_readsAll_27 {E : xE} {B : Nat} {n : Nat} {K : Nat → Nat × Nat} {P : Nat → Nat → Nat} {L : Nat → Nat → Int64}  {e46 : (Nat → Nat → Int32) → Option ((Nat → Nat → Int32))} {q : (Nat → Nat → Int32)} (d : Nat) (hd : 7 ≤ d) (G : GW K P)  (he46 : ∀ (I : Nat → Nat → Int32), e46 I = some q → X E B d 0 0 yX12_readsAll cX12_readsAll 3 (none : Option Jvm.ClassFile.FieldType) (none, (n, K, P, q, L)) 46 [(0, .ref 123)] [] 0 0 (n, K, P, I, L)) : ∀ (f : Nat) (I : Nat → Nat → Int32) (a1 : Int32), mX12_readsAll_27 e46 f I a1 = some q → X E B d 0 0 yX12_readsAll cX12_readsAll 3 (none : Option Jvm.ClassFile.FieldType) (none, (n, K, P, q, L)) 27 [(0, .ref 123), (1, .int a1)] [] 0 0 (n, K, P, I, L) := by
  obtain ⟨d, rfl⟩ : ∃ d0, d = d0 + 1 := ⟨d - 1, by omega⟩
  intro f
  induction f with
  | zero => intro _ _ hm; exact nomatch (show (none : Option ((Nat → Nat → Int32))) = some q from hm)
  | succ f ih =>
    intro I a1 hm
    rw [mX12_readsAll_27] at hm
    refine X_iload_n 1 dX12_readsAll_27 rfl rfl ?_
    refine X_bipush (v := (16 : Int32)) dX12_readsAll_28 (by decide) ?_
    refine X_icmp_ge (tgt := 46) dX12_readsAll_30 (by decide) (fun c6 => ?_) (fun c6 => ?_)
    · replace hm := ip c6 hm
      exact X_lv [0] rfl (he46 _ hm)
    · replace hm := iq c6 hm
      refine X_aload_n 0 dX12_readsAll_33 rfl rfl rfl ?_
      refine X_getPe fl_X12_82 (g_K123 G) rfl (g_P123_25 G) dX12_readsAll_34 ?_
      refine X_iload_n 1 dX12_readsAll_37 rfl rfl ?_
      refine X_iconst (v := (0 : Int32)) dX12_readsAll_38 (by decide) ?_
      obtain ⟨g7, hm⟩ := og hm
      refine X_iastJ (g_K148 G) g7 rfl dX12_readsAll_39 ?_
      refine X_iinc (lv' := [(1, .int (a1 + 1)), (0, .ref 123)]) 1 dX12_readsAll_40 rfl rfl (by decide) rfl ?_
      refine X_goto (tgt := 27) dX12_readsAll_43 (by decide) ?_
      exact X_lv [1, 0] rfl (ih _ _ hm)
def mX12_readsAll_50   : Nat → (Nat → Nat → Int32) → Int32 → Int32 → Option ((Nat → Nat → Int32))
  | 0, _, _, _ => none
  | f + 1, I, a1, a2 => (if a2 = 0 then (some (xu I 123 27 (0 : Int32))) else (Option.bind (mX12_streetClause I a1) (fun q10 => (Option.bind (mX12_goesOn q10) (fun q12 => (mX12_readsAll_50 f q12.2 (a1 + 1) q12.1))))))
set_option maxHeartbeats 400000 in
set_option maxRecDepth 100000 in
theorem kX12_readsAll_50 {E : xE} {B : Nat} {n : Nat} {K : Nat → Nat × Nat} {P : Nat → Nat → Nat} {L : Nat → Nat → Int64}   {q : (Nat → Nat → Int32)} (d : Nat) (hd : 7 ≤ d) (G : GW K P)   : ∀ (f : Nat) (I : Nat → Nat → Int32) (a1 : Int32) (a2 : Int32), mX12_readsAll_50 f I a1 a2 = some q → X E B d 0 0 yX12_readsAll cX12_readsAll 3 (none : Option Jvm.ClassFile.FieldType) (none, (n, K, P, q, L)) 50 [(0, .ref 123), (1, .int a1), (2, .int a2)] [] 0 0 (n, K, P, I, L) := by
  obtain ⟨d, rfl⟩ : ∃ d0, d = d0 + 1 := ⟨d - 1, by omega⟩
  intro f
  induction f with
  | zero => intro _ _ _ hm; exact nomatch (show (none : Option ((Nat → Nat → Int32))) = some q from hm)
  | succ f ih =>
    intro I a1 a2 hm
    rw [mX12_readsAll_50] at hm
    refine X_iload_n 2 dX12_readsAll_50 rfl rfl ?_
    refine X_if_eq (tgt := 70) dX12_readsAll_51 (by decide) (fun c9 => ?_) (fun c9 => ?_)
    · replace hm := ip c9 hm
      refine X_aload_n 0 dX12_readsAll_70 rfl rfl rfl ?_
      refine X_iconst (v := (0 : Int32)) dX12_readsAll_71 (by decide) ?_
      refine X_putI fl_X12_168 (g_K123 G) rfl rfl dX12_readsAll_72 ?_
      replace hm := Option.some.inj hm
      subst hm
      exact X_vret dX12_readsAll_75 rfl
    · replace hm := iq c9 hm
      refine X_aload_n 0 dX12_readsAll_54 rfl rfl rfl ?_
      refine X_iload_n 1 dX12_readsAll_55 rfl rfl ?_
      obtain ⟨q10, e11, hm⟩ := ob hm
      refine X_cV0 (ci := 11) (kX12_streetClause d (by omega) G e11) ml_X12_326 mi_X12_streetClause rfl cf_11 (g_K123 G) rfl rfl (Nat.le_refl _) ⟨Nat.le_refl _, Nat.le_refl _⟩ (Nat.le_of_ble_eq_true rfl) dX12_readsAll_56 ?_
      refine X_iinc (lv' := [(1, .int (a1 + 1)), (0, .ref 123), (2, .int a2)]) 1 dX12_readsAll_59 rfl rfl (by decide) rfl ?_
      refine X_aload_n 1 dX12_readsAll_62 rfl rfl rfl ?_
      obtain ⟨q12, e13, hm⟩ := ob hm
      refine X_cV1 (ci := 11) (kX12_goesOn d (by omega) G e13) ml_X12_329 mi_X12_goesOn rfl cf_11 (g_K123 G) rfl rfl (Nat.le_refl _) ⟨Nat.le_refl _, Nat.le_refl _⟩ (Nat.le_of_ble_eq_true rfl) dX12_readsAll_63 ?_
      refine X_istore_n (lv' := [(2, .int q12.1), (1, .int (a1 + 1)), (0, .ref 123)]) dX12_readsAll_66 rfl (by decide) rfl ?_
      refine X_goto (tgt := 50) dX12_readsAll_67 (by decide) ?_
      exact X_lv [2, 1, 0] rfl (ih _ _ _ hm)
def mX12_readsAll  (I : Nat → Nat → Int32) : Option ((Nat → Nat → Int32)) := (Option.bind (mX12_starts I) (fun q1 => (mX12_readsAll_6 (fun (I_5 : (Nat → Nat → Int32)) => (mX12_readsAll_27 (fun (I_8 : (Nat → Nat → Int32)) => (mX12_readsAll_50 xf I_8 (0 : Int32) (1 : Int32))) xf I_5 (0 : Int32))) xf q1 (0 : Int32))))
set_option maxHeartbeats 400000 in
set_option maxRecDepth 100000 in
theorem kX12_readsAll {E : xE} {B : Nat} {n : Nat} {K : Nat → Nat × Nat} {P : Nat → Nat → Nat} {I : Nat → Nat → Int32} {L : Nat → Nat → Int64}   {q : (Nat → Nat → Int32)} (d : Nat) (hd : 7 ≤ d) (G : GW K P)   (hm : mX12_readsAll I = some q) : MX E B d 0 0 yX12_readsAll cX12_readsAll 3 (none : Option Jvm.ClassFile.FieldType) [.ref 123] (n, K, P, I, L) (none, (n, K, P, q, L)) := by
  refine MX_of (lv := [(0, .ref 123)]) (by decide +kernel) (Nat.le_of_ble_eq_true rfl) rfl ?_
  obtain ⟨d, rfl⟩ : ∃ d0, d = d0 + 1 := ⟨d - 1, by omega⟩
  unfold mX12_readsAll at hm
  refine X_aload_n 0 dX12_readsAll_0 rfl rfl rfl ?_
  obtain ⟨q1, e2, hm⟩ := ob hm
  refine X_cV0 (ci := 11) (kX12_starts d (by omega) G e2) ml_X12_323 mi_X12_starts rfl cf_11 (g_K123 G) rfl rfl (Nat.le_refl _) ⟨Nat.le_refl _, Nat.le_refl _⟩ (Nat.le_of_ble_eq_true rfl) dX12_readsAll_1 ?_
  refine X_iconst (v := (0 : Int32)) dX12_readsAll_4 (by decide) ?_
  refine X_istore_n (lv' := [(1, .int (0 : Int32)), (0, .ref 123)]) dX12_readsAll_5 rfl (by decide) rfl ?_
  refine X_lv [1, 0] rfl (kX12_readsAll_6 _ hd G (fun I_5 hm => ?_) xf _ _  hm)
  refine X_iconst (v := (0 : Int32)) dX12_readsAll_25 (by decide) ?_
  refine X_istore_n (lv' := [(1, .int (0 : Int32)), (0, .ref 123)]) dX12_readsAll_26 rfl (by decide) rfl ?_
  refine X_lv [1, 0] rfl (kX12_readsAll_27 _ hd G (fun I_8 hm => ?_) xf _ _  hm)
  refine X_iconst (v := (0 : Int32)) dX12_readsAll_46 (by decide) ?_
  refine X_istore_n (lv' := [(1, .int (0 : Int32)), (0, .ref 123)]) dX12_readsAll_47 rfl (by decide) rfl ?_
  refine X_iconst (v := (1 : Int32)) dX12_readsAll_48 (by decide) ?_
  refine X_istore_n (lv' := [(2, .int (1 : Int32)), (1, .int (0 : Int32)), (0, .ref 123)]) dX12_readsAll_49 rfl (by decide) rfl ?_
  refine X_lv [2, 1, 0] rfl (kX12_readsAll_50 _ hd G xf _ _ _  hm)
def mX12_isBare (I : Nat → Nat → Int32) (a1 : Int32) : Option (Int32) := (Option.bind (mX12_has (I 124 8) a1) (fun q1 => (if q1 = 0 ∨ q1 = 1 then (some q1) else none)))
set_option maxHeartbeats 400000 in
set_option maxRecDepth 100000 in
theorem kX12_isBare {E : xE} {B : Nat} {n : Nat} {K : Nat → Nat × Nat} {P : Nat → Nat → Nat} {I : Nat → Nat → Int32} {L : Nat → Nat → Int64}  {a1 : Int32} {q : Int32} (d : Nat) (hd : 1 ≤ d) (G : GW K P)   (hm : mX12_isBare I a1 = some q) : MX E B d 0 0 yX12_isBare cX12_isBare 2 (some .boolean) [.ref 123, .int a1] (n, K, P, I, L) (some (.int q), (n, K, P, I, L)) := by
  refine MX_of (lv := [(0, .ref 123), (1, .int a1)]) (by decide +kernel) (Nat.le_of_ble_eq_true rfl) rfl ?_
  obtain ⟨d, rfl⟩ : ∃ d0, d = d0 + 1 := ⟨d - 1, by omega⟩
  unfold mX12_isBare at hm
  refine X_aload_n 0 dX12_isBare_0 rfl rfl rfl ?_
  refine X_getPe fl_X12_9 (g_K123 G) rfl (g_P123_1 G) dX12_isBare_1 ?_
  refine X_bipush (v := (8 : Int32)) dX12_isBare_4 (by decide) ?_
  refine X_ialdJ (j := 8) (g_K124 G) rfl (by decide) dX12_isBare_6 ?_
  refine X_iload_n 1 dX12_isBare_7 rfl rfl ?_
  obtain ⟨q1, e2, hm⟩ := ob hm
  refine X_cS1 (kX12_has d (by omega) G e2) ml_X12_382 ms_X12_has rfl rfl (Nat.le_refl _) ⟨Nat.le_refl _, Nat.le_refl _⟩ (Nat.le_of_ble_eq_true rfl) dX12_isBare_8 ?_
  obtain ⟨g3, hm⟩ := og hm
  replace hm := Option.some.inj hm
  subst hm
  exact X_zret dX12_isBare_11 rfl (x_nz g3)
def mX12_barely_9   : Nat → (Nat → Nat → Int32) → Int32 → Int32 → Int32 → Option (Int32 × (Nat → Nat → Int32))
  | 0, _, _, _, _ => none
  | f + 1, I, a1, a2, a3 => (if inb (a1 + (1 : Int32)) 5 = true then (if (I 125 (ix (a1 + (1 : Int32)))) ≤ a3 then (some (a2, I)) else (if inb a3 16 = true then (if inb a3 16 = true then (mX12_barely_9 f (xu I 131 (ix a3) (0 : Int32)) a1 (a2 + (I 131 (ix a3))) (a3 + 1)) else none) else none)) else none)
set_option maxHeartbeats 400000 in
set_option maxRecDepth 100000 in
theorem kX12_barely_9 {E : xE} {B : Nat} {n : Nat} {K : Nat → Nat × Nat} {P : Nat → Nat → Nat} {L : Nat → Nat → Int64}   {q : Int32 × (Nat → Nat → Int32)} (d : Nat) (hd : 0 ≤ d) (G : GW K P)   : ∀ (f : Nat) (I : Nat → Nat → Int32) (a1 : Int32) (a2 : Int32) (a3 : Int32), mX12_barely_9 f I a1 a2 a3 = some q → X E B d 0 0 yX12_barely cX12_barely 4 (some .int) (some (.int q.1), (n, K, P, q.2, L)) 9 [(0, .ref 123), (1, .int a1), (2, .int a2), (3, .int a3)] [] 0 0 (n, K, P, I, L) := by
  intro f
  induction f with
  | zero => intro _ _ _ _ hm; exact nomatch (show (none : Option (Int32 × (Nat → Nat → Int32))) = some q from hm)
  | succ f ih =>
    intro I a1 a2 a3 hm
    rw [mX12_barely_9] at hm
    refine X_iload_n 3 dX12_barely_9 rfl rfl ?_
    refine X_aload_n 0 dX12_barely_10 rfl rfl rfl ?_
    refine X_getPe fl_X12_13 (g_K123 G) rfl (g_P123_2 G) dX12_barely_11 ?_
    refine X_iload_n 1 dX12_barely_14 rfl rfl ?_
    refine X_iconst (v := (1 : Int32)) dX12_barely_15 (by decide) ?_
    refine X_iadd dX12_barely_16 ?_
    obtain ⟨g2, hm⟩ := og hm
    refine X_ialdJ (g_K125 G) g2 rfl dX12_barely_17 ?_
    refine X_icmp_ge (tgt := 43) dX12_barely_18 (by decide) (fun c3 => ?_) (fun c3 => ?_)
    · replace hm := ip c3 hm
      refine X_iload_n 2 dX12_barely_43 rfl rfl ?_
      replace hm := Option.some.inj hm
      subst hm
      exact X_iret dX12_barely_44 rfl
    · replace hm := iq c3 hm
      refine X_iload_n 2 dX12_barely_21 rfl rfl ?_
      refine X_aload_n 0 dX12_barely_22 rfl rfl rfl ?_
      refine X_getPe fl_X12_31 (g_K123 G) rfl (g_P123_8 G) dX12_barely_23 ?_
      refine X_iload_n 3 dX12_barely_26 rfl rfl ?_
      obtain ⟨g4, hm⟩ := og hm
      refine X_ialdJ (g_K131 G) g4 rfl dX12_barely_27 ?_
      refine X_iadd dX12_barely_28 ?_
      refine X_istore_n (lv' := [(2, .int (a2 + (I 131 (ix a3)))), (0, .ref 123), (1, .int a1), (3, .int a3)]) dX12_barely_29 rfl (by decide) rfl ?_
      refine X_aload_n 1 dX12_barely_30 rfl rfl rfl ?_
      refine X_getPe fl_X12_31 (g_K123 G) rfl (g_P123_8 G) dX12_barely_31 ?_
      refine X_iload_n 3 dX12_barely_34 rfl rfl ?_
      refine X_iconst (v := (0 : Int32)) dX12_barely_35 (by decide) ?_
      obtain ⟨g5, hm⟩ := og hm
      refine X_iastJ (g_K131 G) g5 rfl dX12_barely_36 ?_
      refine X_iinc (lv' := [(3, .int (a3 + 1)), (2, .int (a2 + (I 131 (ix a3)))), (0, .ref 123), (1, .int a1)]) 3 dX12_barely_37 rfl rfl (by decide) rfl ?_
      refine X_goto (tgt := 9) dX12_barely_40 (by decide) ?_
      exact X_lv [2, 3, 1, 0] rfl (ih _ _ _ _ hm)
def mX12_barely  (I : Nat → Nat → Int32) (a1 : Int32) : Option (Int32 × (Nat → Nat → Int32)) := (if inb a1 5 = true then (mX12_barely_9 xf I a1 (0 : Int32) (I 125 (ix a1))) else none)
set_option maxHeartbeats 400000 in
set_option maxRecDepth 100000 in
theorem kX12_barely {E : xE} {B : Nat} {n : Nat} {K : Nat → Nat × Nat} {P : Nat → Nat → Nat} {I : Nat → Nat → Int32} {L : Nat → Nat → Int64}  {a1 : Int32} {q : Int32 × (Nat → Nat → Int32)} (d : Nat) (hd : 0 ≤ d) (G : GW K P)   (hm : mX12_barely I a1 = some q) : MX E B d 0 0 yX12_barely cX12_barely 4 (some .int) [.ref 123, .int a1] (n, K, P, I, L) (some (.int q.1), (n, K, P, q.2, L)) := by
  refine MX_of (lv := [(0, .ref 123), (1, .int a1)]) (by decide +kernel) (Nat.le_of_ble_eq_true rfl) rfl ?_
  unfold mX12_barely at hm
  refine X_iconst (v := (0 : Int32)) dX12_barely_0 (by decide) ?_
  refine X_istore_n (lv' := [(2, .int (0 : Int32)), (0, .ref 123), (1, .int a1)]) dX12_barely_1 rfl (by decide) rfl ?_
  refine X_aload_n 1 dX12_barely_2 rfl rfl rfl ?_
  refine X_getPe fl_X12_13 (g_K123 G) rfl (g_P123_2 G) dX12_barely_3 ?_
  refine X_iload_n 2 dX12_barely_6 rfl rfl ?_
  obtain ⟨g1, hm⟩ := og hm
  refine X_ialdJ (g_K125 G) g1 rfl dX12_barely_7 ?_
  refine X_istore_n (lv' := [(3, .int (I 125 (ix a1))), (2, .int (0 : Int32)), (0, .ref 123), (1, .int a1)]) dX12_barely_8 rfl (by decide) rfl ?_
  refine X_lv [2, 3, 1, 0] rfl (kX12_barely_9 _ hd G xf _ _ _ _  hm)
def mX12_begins_35  (e54 : (Nat → Nat → Int32) → Option ((Nat → Nat → Int32))) : Nat → (Nat → Nat → Int32) → Int32 → Option ((Nat → Nat → Int32))
  | 0, _, _ => none
  | f + 1, I, a1 => (if (80 : Int32) ≤ a1 then (e54 I) else (if inb a1 80 = true then (mX12_begins_35 e54 f (xu I 133 (ix a1) (-1 : Int32)) (a1 + 1)) else none))
set_option maxHeartbeats 400000 in
set_option maxRecDepth 100000 in
theorem kX12_begins_35 {E : xE} {B : Nat} {n : Nat} {K : Nat → Nat × Nat} {P : Nat → Nat → Nat} {L : Nat → Nat → Int64}  {e54 : (Nat → Nat → Int32) → Option ((Nat → Nat → Int32))} {q : (Nat → Nat → Int32)} (d : Nat) (hd : 2 ≤ d) (G : GW K P)  (he54 : ∀ (I : Nat → Nat → Int32), e54 I = some q → X E B d 0 0 yX12_begins cX12_begins 2 (none : Option Jvm.ClassFile.FieldType) (none, (n, K, P, q, L)) 54 [(0, .ref 123)] [] 0 0 (n, K, P, I, L)) : ∀ (f : Nat) (I : Nat → Nat → Int32) (a1 : Int32), mX12_begins_35 e54 f I a1 = some q → X E B d 0 0 yX12_begins cX12_begins 2 (none : Option Jvm.ClassFile.FieldType) (none, (n, K, P, q, L)) 35 [(0, .ref 123), (1, .int a1)] [] 0 0 (n, K, P, I, L) := by
  obtain ⟨d, rfl⟩ : ∃ d0, d = d0 + 1 := ⟨d - 1, by omega⟩
  intro f
  induction f with
  | zero => intro _ _ hm; exact nomatch (show (none : Option ((Nat → Nat → Int32))) = some q from hm)
  | succ f ih =>
    intro I a1 hm
    rw [mX12_begins_35] at hm
    refine X_iload_n 1 dX12_begins_35 rfl rfl ?_
    refine X_bipush (v := (80 : Int32)) dX12_begins_36 (by decide) ?_
    refine X_icmp_ge (tgt := 54) dX12_begins_38 (by decide) (fun c7 => ?_) (fun c7 => ?_)
    · replace hm := ip c7 hm
      exact X_lv [0] rfl (he54 _ hm)
    · replace hm := iq c7 hm
      refine X_aload_n 0 dX12_begins_41 rfl rfl rfl ?_
      refine X_getPe fl_X12_37 (g_K123 G) rfl (g_P123_10 G) dX12_begins_42 ?_
      refine X_iload_n 1 dX12_begins_45 rfl rfl ?_
      refine X_iconst (v := (-1 : Int32)) dX12_begins_46 (by decide) ?_
      obtain ⟨g8, hm⟩ := og hm
      refine X_iastJ (g_K133 G) g8 rfl dX12_begins_47 ?_
      refine X_iinc (lv' := [(1, .int (a1 + 1)), (0, .ref 123)]) 1 dX12_begins_48 rfl rfl (by decide) rfl ?_
      refine X_goto (tgt := 35) dX12_begins_51 (by decide) ?_
      exact X_lv [1, 0] rfl (ih _ _ hm)
def mX12_begins_77   : Nat → (Nat → Nat → Int32) → Int32 → Option ((Nat → Nat → Int32))
  | 0, _, _ => none
  | f + 1, I, a1 => (if (I 124 3) ≤ a1 then (some I) else (Option.bind (mX12_isBare I a1) (fun q11 => (if q11 = 0 then (mX12_begins_77 f I (a1 + 1)) else (Option.bind (mX12_barely I a1) (fun q14 => (mX12_begins_77 f q14.2 (a1 + 1))))))))
set_option maxHeartbeats 400000 in
set_option maxRecDepth 100000 in
theorem kX12_begins_77 {E : xE} {B : Nat} {n : Nat} {K : Nat → Nat × Nat} {P : Nat → Nat → Nat} {L : Nat → Nat → Int64}   {q : (Nat → Nat → Int32)} (d : Nat) (hd : 2 ≤ d) (G : GW K P)   : ∀ (f : Nat) (I : Nat → Nat → Int32) (a1 : Int32), mX12_begins_77 f I a1 = some q → X E B d 0 0 yX12_begins cX12_begins 2 (none : Option Jvm.ClassFile.FieldType) (none, (n, K, P, q, L)) 77 [(0, .ref 123), (1, .int a1)] [] 0 0 (n, K, P, I, L) := by
  obtain ⟨d, rfl⟩ : ∃ d0, d = d0 + 1 := ⟨d - 1, by omega⟩
  intro f
  induction f with
  | zero => intro _ _ hm; exact nomatch (show (none : Option ((Nat → Nat → Int32))) = some q from hm)
  | succ f ih =>
    intro I a1 hm
    rw [mX12_begins_77] at hm
    refine X_iload_n 1 dX12_begins_77 rfl rfl ?_
    refine X_aload_n 0 dX12_begins_78 rfl rfl rfl ?_
    refine X_getPe fl_X12_9 (g_K123 G) rfl (g_P123_1 G) dX12_begins_79 ?_
    refine X_iconst (v := (3 : Int32)) dX12_begins_82 (by decide) ?_
    refine X_ialdJ (j := 3) (g_K124 G) rfl (by decide) dX12_begins_83 ?_
    refine X_icmp_ge (tgt := 107) dX12_begins_84 (by decide) (fun c10 => ?_) (fun c10 => ?_)
    · replace hm := ip c10 hm
      replace hm := Option.some.inj hm
      subst hm
      exact X_vret dX12_begins_107 rfl
    · replace hm := iq c10 hm
      refine X_aload_n 0 dX12_begins_87 rfl rfl rfl ?_
      refine X_iload_n 1 dX12_begins_88 rfl rfl ?_
      obtain ⟨q11, e12, hm⟩ := ob hm
      refine X_cV1 (ci := 11) (kX12_isBare d (by omega) G e12) ml_X12_336 mi_X12_isBare rfl cf_11 (g_K123 G) rfl rfl (Nat.le_refl _) ⟨Nat.le_refl _, Nat.le_refl _⟩ (Nat.le_of_ble_eq_true rfl) dX12_begins_89 ?_
      refine X_if_eq (tgt := 101) dX12_begins_92 (by decide) (fun c13 => ?_) (fun c13 => ?_)
      · replace hm := ip c13 hm
        refine X_iinc (lv' := [(1, .int (a1 + 1)), (0, .ref 123)]) 1 dX12_begins_101 rfl rfl (by decide) rfl ?_
        refine X_goto (tgt := 77) dX12_begins_104 (by decide) ?_
        exact X_lv [1, 0] rfl (ih _ _ hm)
      · replace hm := iq c13 hm
        refine X_aload_n 0 dX12_begins_95 rfl rfl rfl ?_
        refine X_iload_n 1 dX12_begins_96 rfl rfl ?_
        obtain ⟨q14, e15, hm⟩ := ob hm
        refine X_cV1 (ci := 11) (kX12_barely d (by omega) G e15) ml_X12_340 mi_X12_barely rfl cf_11 (g_K123 G) rfl rfl (Nat.le_refl _) ⟨Nat.le_refl _, Nat.le_refl _⟩ (Nat.le_of_ble_eq_true rfl) dX12_begins_97 ?_
        refine X_pop dX12_begins_100 rfl ?_
        refine X_iinc (lv' := [(1, .int (a1 + 1)), (0, .ref 123)]) 1 dX12_begins_101 rfl rfl (by decide) rfl ?_
        refine X_goto (tgt := 77) dX12_begins_104 (by decide) ?_
        exact X_lv [1, 0] rfl (ih _ _ hm)
def mX12_begins  (I : Nat → Nat → Int32) : Option ((Nat → Nat → Int32)) := (Option.bind (mX12_copies I 137 16 131 16) (fun q1 => (Option.bind (mX12_copies q1 138 80 132 80) (fun q3 => (Option.bind (mX12_copies q3 139 4 128 4) (fun q5 => (mX12_begins_35 (fun (I_9 : (Nat → Nat → Int32)) => (mX12_begins_77 xf (xu (xu I_9 124 8 (I_9 140 0)) 124 9 (0 : Int32)) (0 : Int32))) xf q5 (0 : Int32))))))))
set_option maxHeartbeats 400000 in
set_option maxRecDepth 100000 in
theorem kX12_begins {E : xE} {B : Nat} {n : Nat} {K : Nat → Nat × Nat} {P : Nat → Nat → Nat} {I : Nat → Nat → Int32} {L : Nat → Nat → Int64}   {q : (Nat → Nat → Int32)} (d : Nat) (hd : 2 ≤ d) (G : GW K P)   (hm : mX12_begins I = some q) : MX E B d 0 0 yX12_begins cX12_begins 2 (none : Option Jvm.ClassFile.FieldType) [.ref 123] (n, K, P, I, L) (none, (n, K, P, q, L)) := by
  refine MX_of (lv := [(0, .ref 123)]) (by decide +kernel) (Nat.le_of_ble_eq_true rfl) rfl ?_
  obtain ⟨d, rfl⟩ : ∃ d0, d = d0 + 1 := ⟨d - 1, by omega⟩
  unfold mX12_begins at hm
  refine X_aload_n 0 dX12_begins_0 rfl rfl rfl ?_
  refine X_getPe fl_X12_49 (g_K123 G) rfl (g_P123_14 G) dX12_begins_1 ?_
  refine X_aload_n 0 dX12_begins_4 rfl rfl rfl ?_
  refine X_getPe fl_X12_31 (g_K123 G) rfl (g_P123_8 G) dX12_begins_5 ?_
  obtain ⟨q1, e2, hm⟩ := ob hm
  refine X_cS0 (kX12_copies d (by omega) G (g_K137 G) (g_K131 G) e2) ml_X12_332 ms_X12_copies rfl rfl (Nat.le_refl _) ⟨Nat.le_refl _, Nat.le_refl _⟩ (Nat.le_of_ble_eq_true rfl) dX12_begins_8 ?_
  refine X_aload_n 0 dX12_begins_11 rfl rfl rfl ?_
  refine X_getPe fl_X12_52 (g_K123 G) rfl (g_P123_15 G) dX12_begins_12 ?_
  refine X_aload_n 0 dX12_begins_15 rfl rfl rfl ?_
  refine X_getPe fl_X12_34 (g_K123 G) rfl (g_P123_9 G) dX12_begins_16 ?_
  obtain ⟨q3, e4, hm⟩ := ob hm
  refine X_cS0 (kX12_copies d (by omega) G (g_K138 G) (g_K132 G) e4) ml_X12_332 ms_X12_copies rfl rfl (Nat.le_refl _) ⟨Nat.le_refl _, Nat.le_refl _⟩ (Nat.le_of_ble_eq_true rfl) dX12_begins_19 ?_
  refine X_aload_n 0 dX12_begins_22 rfl rfl rfl ?_
  refine X_getPe fl_X12_55 (g_K123 G) rfl (g_P123_16 G) dX12_begins_23 ?_
  refine X_aload_n 0 dX12_begins_26 rfl rfl rfl ?_
  refine X_getPe fl_X12_22 (g_K123 G) rfl (g_P123_5 G) dX12_begins_27 ?_
  obtain ⟨q5, e6, hm⟩ := ob hm
  refine X_cS0 (kX12_copies d (by omega) G (g_K139 G) (g_K128 G) e6) ml_X12_332 ms_X12_copies rfl rfl (Nat.le_refl _) ⟨Nat.le_refl _, Nat.le_refl _⟩ (Nat.le_of_ble_eq_true rfl) dX12_begins_30 ?_
  refine X_iconst (v := (0 : Int32)) dX12_begins_33 (by decide) ?_
  refine X_istore_n (lv' := [(1, .int (0 : Int32)), (0, .ref 123)]) dX12_begins_34 rfl (by decide) rfl ?_
  refine X_lv [1, 0] rfl (kX12_begins_35 _ hd G (fun I_9 hm => ?_) xf _ _  hm)
  refine X_aload_n 0 dX12_begins_54 rfl rfl rfl ?_
  refine X_getPe fl_X12_9 (g_K123 G) rfl (g_P123_1 G) dX12_begins_55 ?_
  refine X_bipush (v := (8 : Int32)) dX12_begins_58 (by decide) ?_
  refine X_aload_n 0 dX12_begins_60 rfl rfl rfl ?_
  refine X_getPe fl_X12_58 (g_K123 G) rfl (g_P123_17 G) dX12_begins_61 ?_
  refine X_iconst (v := (0 : Int32)) dX12_begins_64 (by decide) ?_
  refine X_ialdJ (j := 0) (g_K140 G) rfl (by decide) dX12_begins_65 ?_
  refine X_iastJ (j := 8) (g_K124 G) rfl (by decide) dX12_begins_66 ?_
  refine X_aload_n 0 dX12_begins_67 rfl rfl rfl ?_
  refine X_getPe fl_X12_9 (g_K123 G) rfl (g_P123_1 G) dX12_begins_68 ?_
  refine X_bipush (v := (9 : Int32)) dX12_begins_71 (by decide) ?_
  refine X_iconst (v := (0 : Int32)) dX12_begins_73 (by decide) ?_
  refine X_iastJ (j := 9) (g_K124 G) rfl (by decide) dX12_begins_74 ?_
  refine X_iconst (v := (0 : Int32)) dX12_begins_75 (by decide) ?_
  refine X_istore_n (lv' := [(1, .int (0 : Int32)), (0, .ref 123)]) dX12_begins_76 rfl (by decide) rfl ?_
  refine X_lv [1, 0] rfl (kX12_begins_77 _ hd G xf _ _  hm)
def mX12_street_21  (e55 : (Nat → Nat → Int32) → Option (Int32 × (Nat → Nat → Int32))) : Nat → (Nat → Nat → Int32) → Int32 → Option (Int32 × (Nat → Nat → Int32))
  | 0, _, _ => none
  | f + 1, I, a1 => (if (11 : Int32) ≤ a1 then (e55 I) else (if (9 : Int32) ≤ a1 then (if inb a1 13 = true then (mX12_street_21 e55 f (xu I 124 (ix a1) (0 : Int32)) (a1 + 1)) else none) else (if inb a1 9 = true then (if inb a1 13 = true then (mX12_street_21 e55 f (xu I 124 (ix a1) (I 141 (ix a1))) (a1 + 1)) else none) else none)))
set_option maxHeartbeats 400000 in
set_option maxRecDepth 100000 in
theorem kX12_street_21 {E : xE} {B : Nat} {n : Nat} {K : Nat → Nat × Nat} {P : Nat → Nat → Nat} {L : Nat → Nat → Int64}  {e55 : (Nat → Nat → Int32) → Option (Int32 × (Nat → Nat → Int32))} {q : Int32 × (Nat → Nat → Int32)} (d : Nat) (hd : 8 ≤ d) (G : GW K P)  (he55 : ∀ (I : Nat → Nat → Int32), e55 I = some q → X E B d 0 0 yX12_street cX12_street 2 (some .int) (some (.int q.1), (n, K, P, q.2, L)) 55 [(0, .ref 123)] [] 0 0 (n, K, P, I, L)) : ∀ (f : Nat) (I : Nat → Nat → Int32) (a1 : Int32), mX12_street_21 e55 f I a1 = some q → X E B d 0 0 yX12_street cX12_street 2 (some .int) (some (.int q.1), (n, K, P, q.2, L)) 21 [(0, .ref 123), (1, .int a1)] [] 0 0 (n, K, P, I, L) := by
  obtain ⟨d, rfl⟩ : ∃ d0, d = d0 + 1 := ⟨d - 1, by omega⟩
  intro f
  induction f with
  | zero => intro _ _ hm; exact nomatch (show (none : Option (Int32 × (Nat → Nat → Int32))) = some q from hm)
  | succ f ih =>
    intro I a1 hm
    rw [mX12_street_21] at hm
    refine X_iload_n 1 dX12_street_21 rfl rfl ?_
    refine X_bipush (v := (11 : Int32)) dX12_street_22 (by decide) ?_
    refine X_icmp_ge (tgt := 55) dX12_street_24 (by decide) (fun c4 => ?_) (fun c4 => ?_)
    · replace hm := ip c4 hm
      exact X_lv [0] rfl (he55 _ hm)
    · replace hm := iq c4 hm
      refine X_aload_n 0 dX12_street_27 rfl rfl rfl ?_
      refine X_getPe fl_X12_9 (g_K123 G) rfl (g_P123_1 G) dX12_street_28 ?_
      refine X_iload_n 1 dX12_street_31 rfl rfl ?_
      refine X_iload_n 1 dX12_street_32 rfl rfl ?_
      refine X_bipush (v := (9 : Int32)) dX12_street_33 (by decide) ?_
      refine X_icmp_ge (tgt := 47) dX12_street_35 (by decide) (fun c5 => ?_) (fun c5 => ?_)
      · replace hm := ip c5 hm
        refine X_iconst (v := (0 : Int32)) dX12_street_47 (by decide) ?_
        obtain ⟨g6, hm⟩ := og hm
        refine X_iastJ (g_K124 G) g6 rfl dX12_street_48 ?_
        refine X_iinc (lv' := [(1, .int (a1 + 1)), (0, .ref 123)]) 1 dX12_street_49 rfl rfl (by decide) rfl ?_
        refine X_goto (tgt := 21) dX12_street_52 (by decide) ?_
        exact X_lv [1, 0] rfl (ih _ _ hm)
      · replace hm := iq c5 hm
        refine X_aload_n 0 dX12_street_38 rfl rfl rfl ?_
        refine X_getPe fl_X12_61 (g_K123 G) rfl (g_P123_18 G) dX12_street_39 ?_
        refine X_iload_n 1 dX12_street_42 rfl rfl ?_
        obtain ⟨g7, hm⟩ := og hm
        refine X_ialdJ (g_K141 G) g7 rfl dX12_street_43 ?_
        refine X_goto (tgt := 48) dX12_street_44 (by decide) ?_
        obtain ⟨g8, hm⟩ := og hm
        refine X_iastJ (g_K124 G) g8 rfl dX12_street_48 ?_
        refine X_iinc (lv' := [(1, .int (a1 + 1)), (0, .ref 123)]) 1 dX12_street_49 rfl rfl (by decide) rfl ?_
        refine X_goto (tgt := 21) dX12_street_52 (by decide) ?_
        exact X_lv [1, 0] rfl (ih _ _ hm)
def mX12_street  (I : Nat → Nat → Int32) : Option (Int32 × (Nat → Nat → Int32)) := (Option.bind (mX12_readsAll I) (fun q1 => (if (q1 123 29) ≤ 0 then (mX12_street_21 (fun (I_9 : (Nat → Nat → Int32)) => (Option.bind (mX12_copies I_9 142 5 125 5) (fun q10 => (Option.bind (mX12_copies q10 143 4 126 4) (fun q12 => (Option.bind (mX12_copies q12 144 4 127 4) (fun q14 => (Option.bind (mX12_copies q14 146 5 129 5) (fun q16 => (Option.bind (mX12_copies q16 147 5 130 5) (fun q18 => (Option.bind (mX12_copies q18 148 16 137 16) (fun q20 => (Option.bind (mX12_copies q20 149 80 138 80) (fun q22 => (Option.bind (mX12_copies q22 145 4 139 4) (fun q24 => (Option.bind (mX12_begins (xu q24 140 0 (q24 141 8))) (fun q26 => (some (((xu q26 123 51 (0 : Int32)) 124 4), (xu q26 123 51 (0 : Int32))))))))))))))))))))))) xf q1 (0 : Int32)) else (some (((-2 : Int32) - (q1 123 29)), q1)))))
set_option maxHeartbeats 400000 in
set_option maxRecDepth 100000 in
theorem kX12_street {E : xE} {B : Nat} {n : Nat} {K : Nat → Nat × Nat} {P : Nat → Nat → Nat} {I : Nat → Nat → Int32} {L : Nat → Nat → Int64}   {q : Int32 × (Nat → Nat → Int32)} (d : Nat) (hd : 8 ≤ d) (G : GW K P)   (hm : mX12_street I = some q) : MX E B d 0 0 yX12_street cX12_street 2 (some .int) [.ref 123] (n, K, P, I, L) (some (.int q.1), (n, K, P, q.2, L)) := by
  refine MX_of (lv := [(0, .ref 123)]) (by decide +kernel) (Nat.le_of_ble_eq_true rfl) rfl ?_
  obtain ⟨d, rfl⟩ : ∃ d0, d = d0 + 1 := ⟨d - 1, by omega⟩
  unfold mX12_street at hm
  refine X_aload_n 0 dX12_street_0 rfl rfl rfl ?_
  obtain ⟨q1, e2, hm⟩ := ob hm
  refine X_cV0 (ci := 11) (kX12_readsAll d (by omega) G e2) ml_X12_343 mi_X12_readsAll rfl cf_11 (g_K123 G) rfl rfl (Nat.le_refl _) ⟨Nat.le_refl _, Nat.le_refl _⟩ (Nat.le_of_ble_eq_true rfl) dX12_street_1 ?_
  refine X_aload_n 0 dX12_street_4 rfl rfl rfl ?_
  refine X_getI fl_X12_199 (g_K123 G) rfl dX12_street_5 ?_
  refine X_if_le (tgt := 19) dX12_street_8 (by decide) (fun c3 => ?_) (fun c3 => ?_)
  · replace hm := ip c3 hm
    refine X_iconst (v := (0 : Int32)) dX12_street_19 (by decide) ?_
    refine X_istore_n (lv' := [(1, .int (0 : Int32)), (0, .ref 123)]) dX12_street_20 rfl (by decide) rfl ?_
    refine X_lv [1, 0] rfl (kX12_street_21 _ hd G (fun I_9 hm => ?_) xf _ _  hm)
    refine X_aload_n 0 dX12_street_55 rfl rfl rfl ?_
    refine X_getPe fl_X12_64 (g_K123 G) rfl (g_P123_19 G) dX12_street_56 ?_
    refine X_aload_n 0 dX12_street_59 rfl rfl rfl ?_
    refine X_getPe fl_X12_13 (g_K123 G) rfl (g_P123_2 G) dX12_street_60 ?_
    obtain ⟨q10, e11, hm⟩ := ob hm
    refine X_cS0 (kX12_copies d (by omega) G (g_K142 G) (g_K125 G) e11) ml_X12_332 ms_X12_copies rfl rfl (Nat.le_refl _) ⟨Nat.le_refl _, Nat.le_refl _⟩ (Nat.le_of_ble_eq_true rfl) dX12_street_63 ?_
    refine X_aload_n 0 dX12_street_66 rfl rfl rfl ?_
    refine X_getPe fl_X12_67 (g_K123 G) rfl (g_P123_20 G) dX12_street_67 ?_
    refine X_aload_n 0 dX12_street_70 rfl rfl rfl ?_
    refine X_getPe fl_X12_16 (g_K123 G) rfl (g_P123_3 G) dX12_street_71 ?_
    obtain ⟨q12, e13, hm⟩ := ob hm
    refine X_cS0 (kX12_copies d (by omega) G (g_K143 G) (g_K126 G) e13) ml_X12_332 ms_X12_copies rfl rfl (Nat.le_refl _) ⟨Nat.le_refl _, Nat.le_refl _⟩ (Nat.le_of_ble_eq_true rfl) dX12_street_74 ?_
    refine X_aload_n 0 dX12_street_77 rfl rfl rfl ?_
    refine X_getPe fl_X12_70 (g_K123 G) rfl (g_P123_21 G) dX12_street_78 ?_
    refine X_aload_n 0 dX12_street_81 rfl rfl rfl ?_
    refine X_getPe fl_X12_19 (g_K123 G) rfl (g_P123_4 G) dX12_street_82 ?_
    obtain ⟨q14, e15, hm⟩ := ob hm
    refine X_cS0 (kX12_copies d (by omega) G (g_K144 G) (g_K127 G) e15) ml_X12_332 ms_X12_copies rfl rfl (Nat.le_refl _) ⟨Nat.le_refl _, Nat.le_refl _⟩ (Nat.le_of_ble_eq_true rfl) dX12_street_85 ?_
    refine X_aload_n 0 dX12_street_88 rfl rfl rfl ?_
    refine X_getPe fl_X12_76 (g_K123 G) rfl (g_P123_23 G) dX12_street_89 ?_
    refine X_aload_n 0 dX12_street_92 rfl rfl rfl ?_
    refine X_getPe fl_X12_25 (g_K123 G) rfl (g_P123_6 G) dX12_street_93 ?_
    obtain ⟨q16, e17, hm⟩ := ob hm
    refine X_cS0 (kX12_copies d (by omega) G (g_K146 G) (g_K129 G) e17) ml_X12_332 ms_X12_copies rfl rfl (Nat.le_refl _) ⟨Nat.le_refl _, Nat.le_refl _⟩ (Nat.le_of_ble_eq_true rfl) dX12_street_96 ?_
    refine X_aload_n 0 dX12_street_99 rfl rfl rfl ?_
    refine X_getPe fl_X12_79 (g_K123 G) rfl (g_P123_24 G) dX12_street_100 ?_
    refine X_aload_n 0 dX12_street_103 rfl rfl rfl ?_
    refine X_getPe fl_X12_28 (g_K123 G) rfl (g_P123_7 G) dX12_street_104 ?_
    obtain ⟨q18, e19, hm⟩ := ob hm
    refine X_cS0 (kX12_copies d (by omega) G (g_K147 G) (g_K130 G) e19) ml_X12_332 ms_X12_copies rfl rfl (Nat.le_refl _) ⟨Nat.le_refl _, Nat.le_refl _⟩ (Nat.le_of_ble_eq_true rfl) dX12_street_107 ?_
    refine X_aload_n 0 dX12_street_110 rfl rfl rfl ?_
    refine X_getPe fl_X12_82 (g_K123 G) rfl (g_P123_25 G) dX12_street_111 ?_
    refine X_aload_n 0 dX12_street_114 rfl rfl rfl ?_
    refine X_getPe fl_X12_49 (g_K123 G) rfl (g_P123_14 G) dX12_street_115 ?_
    obtain ⟨q20, e21, hm⟩ := ob hm
    refine X_cS0 (kX12_copies d (by omega) G (g_K148 G) (g_K137 G) e21) ml_X12_332 ms_X12_copies rfl rfl (Nat.le_refl _) ⟨Nat.le_refl _, Nat.le_refl _⟩ (Nat.le_of_ble_eq_true rfl) dX12_street_118 ?_
    refine X_aload_n 0 dX12_street_121 rfl rfl rfl ?_
    refine X_getPe fl_X12_85 (g_K123 G) rfl (g_P123_26 G) dX12_street_122 ?_
    refine X_aload_n 0 dX12_street_125 rfl rfl rfl ?_
    refine X_getPe fl_X12_52 (g_K123 G) rfl (g_P123_15 G) dX12_street_126 ?_
    obtain ⟨q22, e23, hm⟩ := ob hm
    refine X_cS0 (kX12_copies d (by omega) G (g_K149 G) (g_K138 G) e23) ml_X12_332 ms_X12_copies rfl rfl (Nat.le_refl _) ⟨Nat.le_refl _, Nat.le_refl _⟩ (Nat.le_of_ble_eq_true rfl) dX12_street_129 ?_
    refine X_aload_n 0 dX12_street_132 rfl rfl rfl ?_
    refine X_getPe fl_X12_73 (g_K123 G) rfl (g_P123_22 G) dX12_street_133 ?_
    refine X_aload_n 0 dX12_street_136 rfl rfl rfl ?_
    refine X_getPe fl_X12_55 (g_K123 G) rfl (g_P123_16 G) dX12_street_137 ?_
    obtain ⟨q24, e25, hm⟩ := ob hm
    refine X_cS0 (kX12_copies d (by omega) G (g_K145 G) (g_K139 G) e25) ml_X12_332 ms_X12_copies rfl rfl (Nat.le_refl _) ⟨Nat.le_refl _, Nat.le_refl _⟩ (Nat.le_of_ble_eq_true rfl) dX12_street_140 ?_
    refine X_aload_n 0 dX12_street_143 rfl rfl rfl ?_
    refine X_getPe fl_X12_58 (g_K123 G) rfl (g_P123_17 G) dX12_street_144 ?_
    refine X_iconst (v := (0 : Int32)) dX12_street_147 (by decide) ?_
    refine X_aload_n 0 dX12_street_148 rfl rfl rfl ?_
    refine X_getPe fl_X12_61 (g_K123 G) rfl (g_P123_18 G) dX12_street_149 ?_
    refine X_bipush (v := (8 : Int32)) dX12_street_152 (by decide) ?_
    refine X_ialdJ (j := 8) (g_K141 G) rfl (by decide) dX12_street_154 ?_
    refine X_iastJ (j := 0) (g_K140 G) rfl (by decide) dX12_street_155 ?_
    refine X_aload_n 0 dX12_street_156 rfl rfl rfl ?_
    obtain ⟨q26, e27, hm⟩ := ob hm
    refine X_cV0 (ci := 11) (kX12_begins d (by omega) G e27) ml_X12_346 mi_X12_begins rfl cf_11 (g_K123 G) rfl rfl (Nat.le_refl _) ⟨Nat.le_refl _, Nat.le_refl _⟩ (Nat.le_of_ble_eq_true rfl) dX12_street_157 ?_
    refine X_aload_n 0 dX12_street_160 rfl rfl rfl ?_
    refine X_iconst (v := (0 : Int32)) dX12_street_161 (by decide) ?_
    refine X_putI fl_X12_349 (g_K123 G) rfl rfl dX12_street_162 ?_
    refine X_aload_n 0 dX12_street_165 rfl rfl rfl ?_
    refine X_getPe fl_X12_9 (g_K123 G) rfl (g_P123_1 G) dX12_street_166 ?_
    refine X_iconst (v := (4 : Int32)) dX12_street_169 (by decide) ?_
    refine X_ialdJ (j := 4) (g_K124 G) rfl (by decide) dX12_street_170 ?_
    replace hm := Option.some.inj hm
    subst hm
    exact X_iret dX12_street_171 rfl
  · replace hm := iq c3 hm
    refine X_bipush (v := (-2 : Int32)) dX12_street_11 (by decide) ?_
    refine X_aload_n 0 dX12_street_13 rfl rfl rfl ?_
    refine X_getI fl_X12_199 (g_K123 G) rfl dX12_street_14 ?_
    refine X_isub dX12_street_17 ?_
    replace hm := Option.some.inj hm
    subst hm
    exact X_iret dX12_street_18 rfl
def mX12_ruleClause  (I : Nat → Nat → Int32) (a1 : Int32) : Option ((Nat → Nat → Int32)) := (Option.bind (mX12_blanks I) (fun q1 => (Option.bind (mX12_stood q1 9) (fun q3 => (if q3 = 0 then (Option.bind (mX12_fails q1 (0 : Int32) (q1 123 28)) (fun q22 => (some q22))) else (if a1 = (12 : Int32) then (Option.bind (mX12_fails q1 (4 : Int32) (q1 123 28)) (fun q20 => (some q20))) else (if inb (((12 : Int32) * ((xu q1 123 28 ((q1 123 28) + (5 : Int32))) 123 30)) + a1) 72 = true then (Option.bind (mX12_sum (xu (xu q1 123 28 ((q1 123 28) + (5 : Int32))) 154 (ix (((12 : Int32) * ((xu q1 123 28 ((q1 123 28) + (5 : Int32))) 123 30)) + a1)) ((xu q1 123 28 ((q1 123 28) + (5 : Int32))) 123 32))) (fun q8 => (if inb (((12 : Int32) * ((xu q1 123 28 ((q1 123 28) + (5 : Int32))) 123 30)) + a1) 72 = true then (if ((xu q8 155 (ix (((12 : Int32) * ((xu q1 123 28 ((q1 123 28) + (5 : Int32))) 123 30)) + a1)) (q8 123 32)) 123 29) = 0 then (Option.bind (mX12_takes (xu q8 155 (ix (((12 : Int32) * ((xu q1 123 28 ((q1 123 28) + (5 : Int32))) 123 30)) + a1)) (q8 123 32)) 20) (fun q13 => (if q13.1 = 0 then (if inb (((12 : Int32) * ((xu q1 123 28 ((q1 123 28) + (5 : Int32))) 123 30)) + a1) 72 = true then (some (xu q13.2 156 (ix (((12 : Int32) * ((xu q1 123 28 ((q1 123 28) + (5 : Int32))) 123 30)) + a1)) (q13.2 123 32))) else none) else (Option.bind (mX12_test q13.2) (fun q17 => (if inb (((12 : Int32) * ((xu q1 123 28 ((q1 123 28) + (5 : Int32))) 123 30)) + a1) 72 = true then (some (xu q17 156 (ix (((12 : Int32) * ((xu q1 123 28 ((q1 123 28) + (5 : Int32))) 123 30)) + a1)) (q17 123 32))) else none)))))) else (if inb (((12 : Int32) * ((xu q1 123 28 ((q1 123 28) + (5 : Int32))) 123 30)) + a1) 72 = true then (some (xu (xu q8 155 (ix (((12 : Int32) * ((xu q1 123 28 ((q1 123 28) + (5 : Int32))) 123 30)) + a1)) (q8 123 32)) 156 (ix (((12 : Int32) * ((xu q1 123 28 ((q1 123 28) + (5 : Int32))) 123 30)) + a1)) ((xu q8 155 (ix (((12 : Int32) * ((xu q1 123 28 ((q1 123 28) + (5 : Int32))) 123 30)) + a1)) (q8 123 32)) 123 32))) else none)) else none))) else none)))))))
set_option maxHeartbeats 400000 in
set_option maxRecDepth 100000 in
theorem kX12_ruleClause {E : xE} {B : Nat} {n : Nat} {K : Nat → Nat × Nat} {P : Nat → Nat → Nat} {I : Nat → Nat → Int32} {L : Nat → Nat → Int64}  {a1 : Int32} {q : (Nat → Nat → Int32)} (d : Nat) (hd : 12 ≤ d) (G : GW K P)   (hm : mX12_ruleClause I a1 = some q) : MX E B d 0 0 yX12_ruleClause cX12_ruleClause 4 (none : Option Jvm.ClassFile.FieldType) [.ref 123, .int a1] (n, K, P, I, L) (none, (n, K, P, q, L)) := by
  refine MX_of (lv := [(0, .ref 123), (1, .int a1)]) (by decide +kernel) (Nat.le_of_ble_eq_true rfl) rfl ?_
  obtain ⟨d, rfl⟩ : ∃ d0, d = d0 + 1 := ⟨d - 1, by omega⟩
  unfold mX12_ruleClause at hm
  refine X_aload_n 0 dX12_ruleClause_0 rfl rfl rfl ?_
  obtain ⟨q1, e2, hm⟩ := ob hm
  refine X_cV0 (ci := 11) (kX12_blanks d (by omega) G e2) ml_X12_222 mi_X12_blanks rfl cf_11 (g_K123 G) rfl rfl (Nat.le_refl _) ⟨Nat.le_refl _, Nat.le_refl _⟩ (Nat.le_of_ble_eq_true rfl) dX12_ruleClause_1 ?_
  refine X_aload_n 0 dX12_ruleClause_4 rfl rfl rfl ?_
  refine X_getI fl_X12_202 (g_K123 G) rfl dX12_ruleClause_5 ?_
  refine X_istore_n (lv' := [(2, .int (q1 123 28)), (0, .ref 123), (1, .int a1)]) dX12_ruleClause_8 rfl (by decide) rfl ?_
  refine X_aload_n 1 dX12_ruleClause_9 rfl rfl rfl ?_
  refine X_ldcwS (i := 9) rfl (by decide) dX12_ruleClause_10 ?_
  obtain ⟨q3, e4, hm⟩ := ob hm
  refine X_cV1 (ci := 11) (kX12_stood d (by omega) G (by decide) e4) ml_X12_225 mi_X12_stood rfl cf_11 (g_K123 G) rfl rfl (Nat.le_refl _) ⟨Nat.le_refl _, Nat.le_refl _⟩ (Nat.le_of_ble_eq_true rfl) dX12_ruleClause_13 ?_
  refine X_if_ne (tgt := 26) dX12_ruleClause_16 (by decide) (fun c5 => ?_) (fun c5 => ?_)
  · replace hm := iq c5 hm
    refine X_iload_n 2 dX12_ruleClause_26 rfl rfl ?_
    refine X_bipush (v := (12 : Int32)) dX12_ruleClause_27 (by decide) ?_
    refine X_icmp_ne (tgt := 39) dX12_ruleClause_29 (by decide) (fun c6 => ?_) (fun c6 => ?_)
    · replace hm := iq c6 hm
      refine X_aload_n 1 dX12_ruleClause_39 rfl rfl rfl ?_
      refine X_dup dX12_ruleClause_40 rfl ?_
      refine X_getI fl_X12_202 (g_K123 G) rfl dX12_ruleClause_41 ?_
      refine X_iconst (v := (5 : Int32)) dX12_ruleClause_44 (by decide) ?_
      refine X_iadd dX12_ruleClause_45 ?_
      refine X_putI fl_X12_202 (g_K123 G) rfl rfl dX12_ruleClause_46 ?_
      refine X_bipush (v := (12 : Int32)) dX12_ruleClause_49 (by decide) ?_
      refine X_aload_n 1 dX12_ruleClause_51 rfl rfl rfl ?_
      refine X_getI fl_X12_229 (g_K123 G) rfl dX12_ruleClause_52 ?_
      refine X_imul dX12_ruleClause_55 ?_
      refine X_iload_n 2 dX12_ruleClause_56 rfl rfl ?_
      refine X_iadd dX12_ruleClause_57 ?_
      refine X_istore_n (lv' := [(3, .int (((12 : Int32) * ((xu q1 123 28 ((q1 123 28) + (5 : Int32))) 123 30)) + a1)), (2, .int (q1 123 28)), (0, .ref 123), (1, .int a1)]) dX12_ruleClause_58 rfl (by decide) rfl ?_
      refine X_aload_n 2 dX12_ruleClause_59 rfl rfl rfl ?_
      refine X_getPe fl_X12_105 (g_K123 G) rfl (g_P123_41 G) dX12_ruleClause_60 ?_
      refine X_iload_n 0 dX12_ruleClause_63 rfl rfl ?_
      refine X_aload_n 2 dX12_ruleClause_64 rfl rfl rfl ?_
      refine X_getI fl_X12_232 (g_K123 G) rfl dX12_ruleClause_65 ?_
      obtain ⟨g7, hm⟩ := og hm
      refine X_iastJ (g_K154 G) g7 rfl dX12_ruleClause_68 ?_
      refine X_aload_n 2 dX12_ruleClause_69 rfl rfl rfl ?_
      obtain ⟨q8, e9, hm⟩ := ob hm
      refine X_cV0 (ci := 11) (kX12_sum d (by omega) G e9) ml_X12_266 mi_X12_sum rfl cf_11 (g_K123 G) rfl rfl (Nat.le_refl _) ⟨Nat.le_refl _, Nat.le_refl _⟩ (Nat.le_of_ble_eq_true rfl) dX12_ruleClause_70 ?_
      refine X_aload_n 2 dX12_ruleClause_73 rfl rfl rfl ?_
      refine X_getPe fl_X12_108 (g_K123 G) rfl (g_P123_42 G) dX12_ruleClause_74 ?_
      refine X_iload_n 0 dX12_ruleClause_77 rfl rfl ?_
      refine X_aload_n 2 dX12_ruleClause_78 rfl rfl rfl ?_
      refine X_getI fl_X12_232 (g_K123 G) rfl dX12_ruleClause_79 ?_
      obtain ⟨g10, hm⟩ := og hm
      refine X_iastJ (g_K155 G) g10 rfl dX12_ruleClause_82 ?_
      refine X_aload_n 2 dX12_ruleClause_83 rfl rfl rfl ?_
      refine X_getI fl_X12_199 (g_K123 G) rfl dX12_ruleClause_84 ?_
      refine X_if_ne (tgt := 104) dX12_ruleClause_87 (by decide) (fun c11 => ?_) (fun c11 => ?_)
      · replace hm := iq c11 hm
        refine X_aload_n 2 dX12_ruleClause_104 rfl rfl rfl ?_
        refine X_getPe fl_X12_111 (g_K123 G) rfl (g_P123_43 G) dX12_ruleClause_105 ?_
        refine X_iload_n 0 dX12_ruleClause_108 rfl rfl ?_
        refine X_aload_n 2 dX12_ruleClause_109 rfl rfl rfl ?_
        refine X_getI fl_X12_232 (g_K123 G) rfl dX12_ruleClause_110 ?_
        obtain ⟨g12, hm⟩ := og hm
        refine X_iastJ (g_K156 G) g12 rfl dX12_ruleClause_113 ?_
        replace hm := Option.some.inj hm
        subst hm
        exact X_vret dX12_ruleClause_114 rfl
      · replace hm := ip c11 hm
        refine X_aload_n 2 dX12_ruleClause_90 rfl rfl rfl ?_
        refine X_ldcwS (i := 20) rfl (by decide) dX12_ruleClause_91 ?_
        obtain ⟨q13, e14, hm⟩ := ob hm
        refine X_cV1 (ci := 11) (kX12_takes d (by omega) G (by decide) e14) ml_X12_356 mi_X12_takes rfl cf_11 (g_K123 G) rfl rfl (Nat.le_refl _) ⟨Nat.le_refl _, Nat.le_refl _⟩ (Nat.le_of_ble_eq_true rfl) dX12_ruleClause_94 ?_
        refine X_if_eq (tgt := 104) dX12_ruleClause_97 (by decide) (fun c15 => ?_) (fun c15 => ?_)
        · replace hm := ip c15 hm
          refine X_aload_n 2 dX12_ruleClause_104 rfl rfl rfl ?_
          refine X_getPe fl_X12_111 (g_K123 G) rfl (g_P123_43 G) dX12_ruleClause_105 ?_
          refine X_iload_n 0 dX12_ruleClause_108 rfl rfl ?_
          refine X_aload_n 2 dX12_ruleClause_109 rfl rfl rfl ?_
          refine X_getI fl_X12_232 (g_K123 G) rfl dX12_ruleClause_110 ?_
          obtain ⟨g16, hm⟩ := og hm
          refine X_iastJ (g_K156 G) g16 rfl dX12_ruleClause_113 ?_
          replace hm := Option.some.inj hm
          subst hm
          exact X_vret dX12_ruleClause_114 rfl
        · replace hm := iq c15 hm
          refine X_aload_n 2 dX12_ruleClause_100 rfl rfl rfl ?_
          obtain ⟨q17, e18, hm⟩ := ob hm
          refine X_cV0 (ci := 11) (kX12_test d (by omega) G e18) ml_X12_359 mi_X12_test rfl cf_11 (g_K123 G) rfl rfl (Nat.le_refl _) ⟨Nat.le_refl _, Nat.le_refl _⟩ (Nat.le_of_ble_eq_true rfl) dX12_ruleClause_101 ?_
          refine X_aload_n 2 dX12_ruleClause_104 rfl rfl rfl ?_
          refine X_getPe fl_X12_111 (g_K123 G) rfl (g_P123_43 G) dX12_ruleClause_105 ?_
          refine X_iload_n 0 dX12_ruleClause_108 rfl rfl ?_
          refine X_aload_n 2 dX12_ruleClause_109 rfl rfl rfl ?_
          refine X_getI fl_X12_232 (g_K123 G) rfl dX12_ruleClause_110 ?_
          obtain ⟨g19, hm⟩ := og hm
          refine X_iastJ (g_K156 G) g19 rfl dX12_ruleClause_113 ?_
          replace hm := Option.some.inj hm
          subst hm
          exact X_vret dX12_ruleClause_114 rfl
    · replace hm := ip c6 hm
      refine X_aload_n 1 dX12_ruleClause_32 rfl rfl rfl ?_
      refine X_iconst (v := (4 : Int32)) dX12_ruleClause_33 (by decide) ?_
      refine X_iload_n 0 dX12_ruleClause_34 rfl rfl ?_
      obtain ⟨q20, e21, hm⟩ := ob hm
      refine X_cV0 (ci := 11) (kX12_fails d (by omega) G e21) ml_X12_238 mi_X12_fails rfl cf_11 (g_K123 G) rfl rfl (Nat.le_refl _) ⟨Nat.le_refl _, Nat.le_refl _⟩ (Nat.le_of_ble_eq_true rfl) dX12_ruleClause_35 ?_
      replace hm := Option.some.inj hm
      subst hm
      exact X_vret dX12_ruleClause_38 rfl
  · replace hm := ip c5 hm
    refine X_aload_n 1 dX12_ruleClause_19 rfl rfl rfl ?_
    refine X_iconst (v := (0 : Int32)) dX12_ruleClause_20 (by decide) ?_
    refine X_iload_n 0 dX12_ruleClause_21 rfl rfl ?_
    obtain ⟨q22, e23, hm⟩ := ob hm
    refine X_cV0 (ci := 11) (kX12_fails d (by omega) G e23) ml_X12_238 mi_X12_fails rfl cf_11 (g_K123 G) rfl rfl (Nat.le_refl _) ⟨Nat.le_refl _, Nat.le_refl _⟩ (Nat.le_of_ble_eq_true rfl) dX12_ruleClause_22 ?_
    replace hm := Option.some.inj hm
    subst hm
    exact X_vret dX12_ruleClause_25 rfl
def mX12_rule_27  (e47 : (Nat → Nat → Int32) → Int32 → Option (Int32 × (Nat → Nat → Int32))) : Nat → (Nat → Nat → Int32) → Int32 → Int32 → Option (Int32 × (Nat → Nat → Int32))
  | 0, _, _, _ => none
  | f + 1, I, a1, a2 => (if a2 = 0 then (e47 I a1) else (Option.bind (mX12_ruleClause I a1) (fun q5 => (Option.bind (mX12_goesOn q5) (fun q7 => (mX12_rule_27 e47 f q7.2 (a1 + 1) q7.1))))))
set_option maxHeartbeats 400000 in
set_option maxRecDepth 100000 in
theorem kX12_rule_27 {E : xE} {B : Nat} {n : Nat} {K : Nat → Nat × Nat} {P : Nat → Nat → Nat} {L : Nat → Nat → Int64}  {e47 : (Nat → Nat → Int32) → Int32 → Option (Int32 × (Nat → Nat → Int32))} {q : Int32 × (Nat → Nat → Int32)} (d : Nat) (hd : 13 ≤ d) (G : GW K P)  (he47 : ∀ (I : Nat → Nat → Int32) (a1 : Int32), e47 I a1 = some q → X E B d 0 0 yX12_rule cX12_rule 3 (some .int) (some (.int q.1), (n, K, P, q.2, L)) 47 [(0, .ref 123), (1, .int a1)] [] 0 0 (n, K, P, I, L)) : ∀ (f : Nat) (I : Nat → Nat → Int32) (a1 : Int32) (a2 : Int32), mX12_rule_27 e47 f I a1 a2 = some q → X E B d 0 0 yX12_rule cX12_rule 3 (some .int) (some (.int q.1), (n, K, P, q.2, L)) 27 [(0, .ref 123), (1, .int a1), (2, .int a2)] [] 0 0 (n, K, P, I, L) := by
  obtain ⟨d, rfl⟩ : ∃ d0, d = d0 + 1 := ⟨d - 1, by omega⟩
  intro f
  induction f with
  | zero => intro _ _ _ hm; exact nomatch (show (none : Option (Int32 × (Nat → Nat → Int32))) = some q from hm)
  | succ f ih =>
    intro I a1 a2 hm
    rw [mX12_rule_27] at hm
    refine X_iload_n 2 dX12_rule_27 rfl rfl ?_
    refine X_if_eq (tgt := 47) dX12_rule_28 (by decide) (fun c4 => ?_) (fun c4 => ?_)
    · replace hm := ip c4 hm
      exact X_lv [0, 1] rfl (he47 _ _ hm)
    · replace hm := iq c4 hm
      refine X_aload_n 0 dX12_rule_31 rfl rfl rfl ?_
      refine X_iload_n 1 dX12_rule_32 rfl rfl ?_
      obtain ⟨q5, e6, hm⟩ := ob hm
      refine X_cV0 (ci := 11) (kX12_ruleClause d (by omega) G e6) ml_X12_365 mi_X12_ruleClause rfl cf_11 (g_K123 G) rfl rfl (Nat.le_refl _) ⟨Nat.le_refl _, Nat.le_refl _⟩ (Nat.le_of_ble_eq_true rfl) dX12_rule_33 ?_
      refine X_iinc (lv' := [(1, .int (a1 + 1)), (0, .ref 123), (2, .int a2)]) 1 dX12_rule_36 rfl rfl (by decide) rfl ?_
      refine X_aload_n 1 dX12_rule_39 rfl rfl rfl ?_
      obtain ⟨q7, e8, hm⟩ := ob hm
      refine X_cV1 (ci := 11) (kX12_goesOn d (by omega) G e8) ml_X12_329 mi_X12_goesOn rfl cf_11 (g_K123 G) rfl rfl (Nat.le_refl _) ⟨Nat.le_refl _, Nat.le_refl _⟩ (Nat.le_of_ble_eq_true rfl) dX12_rule_40 ?_
      refine X_istore_n (lv' := [(2, .int q7.1), (1, .int (a1 + 1)), (0, .ref 123)]) dX12_rule_43 rfl (by decide) rfl ?_
      refine X_goto (tgt := 27) dX12_rule_44 (by decide) ?_
      exact X_lv [2, 1, 0] rfl (ih _ _ _ hm)
def mX12_rule_79  (I : Nat → Nat → Int32) (t0 : Int32) (t1 : Int32) : Option (Int32 × (Nat → Nat → Int32)) := (if ((xu I 123 31 (t1 + t0)) 123 29) ≤ 0 then (some ((((xu I 123 31 (t1 + t0)) 123 31) - (1 : Int32)), (xu I 123 31 (t1 + t0)))) else (some (((-2 : Int32) - ((xu I 123 31 (t1 + t0)) 123 29)), (xu I 123 31 (t1 + t0)))))
set_option maxHeartbeats 400000 in
set_option maxRecDepth 100000 in
theorem kX12_rule_79 {E : xE} {B : Nat} {n : Nat} {K : Nat → Nat × Nat} {P : Nat → Nat → Nat} {I : Nat → Nat → Int32} {L : Nat → Nat → Int64}   {t0 : Int32} {t1 : Int32} {q : Int32 × (Nat → Nat → Int32)} (d : Nat) (hd : 13 ≤ d) (G : GW K P)    (hm : mX12_rule_79 I t0 t1 = some q) : X E B d 0 0 yX12_rule cX12_rule 3 (some .int) (some (.int q.1), (n, K, P, q.2, L)) 79 [(0, .ref 123)] [.int t0, .int t1, .ref 123] 0 0 (n, K, P, I, L) := by
  obtain ⟨d, rfl⟩ : ∃ d0, d = d0 + 1 := ⟨d - 1, by omega⟩
  unfold mX12_rule_79 at hm
  refine X_iadd dX12_rule_79 ?_
  refine X_putI fl_X12_362 (g_K123 G) rfl rfl dX12_rule_80 ?_
  refine X_aload_n 0 dX12_rule_83 rfl rfl rfl ?_
  refine X_getI fl_X12_199 (g_K123 G) rfl dX12_rule_84 ?_
  refine X_if_le (tgt := 100) dX12_rule_87 (by decide) (fun c12 => ?_) (fun c12 => ?_)
  · replace hm := ip c12 hm
    refine X_aload_n 0 dX12_rule_100 rfl rfl rfl ?_
    refine X_getI fl_X12_362 (g_K123 G) rfl dX12_rule_101 ?_
    refine X_iconst (v := (1 : Int32)) dX12_rule_104 (by decide) ?_
    refine X_isub dX12_rule_105 ?_
    replace hm := Option.some.inj hm
    subst hm
    exact X_iret dX12_rule_106 rfl
  · replace hm := iq c12 hm
    refine X_bipush (v := (-2 : Int32)) dX12_rule_90 (by decide) ?_
    refine X_aload_n 0 dX12_rule_92 rfl rfl rfl ?_
    refine X_getI fl_X12_199 (g_K123 G) rfl dX12_rule_93 ?_
    refine X_isub dX12_rule_96 ?_
    refine X_goto (tgt := 106) dX12_rule_97 (by decide) ?_
    replace hm := Option.some.inj hm
    subst hm
    exact X_iret dX12_rule_106 rfl
def mX12_rule  (I : Nat → Nat → Int32) : Option (Int32 × (Nat → Nat → Int32)) := (if (I 123 31) = (6 : Int32) then (some ((-1 : Int32), I)) else (Option.bind (mX12_starts (xu I 123 30 (I 123 31))) (fun q2 => (mX12_rule_27 (fun (I_9 : (Nat → Nat → Int32)) (a1_9 : Int32) => (if inb ((xu I_9 123 27 (0 : Int32)) 123 30) 6 = true then (if ((xu (xu I_9 123 27 (0 : Int32)) 153 (ix ((xu I_9 123 27 (0 : Int32)) 123 30)) a1_9) 123 29) = 0 then (mX12_rule_79 (xu (xu I_9 123 27 (0 : Int32)) 153 (ix ((xu I_9 123 27 (0 : Int32)) 123 30)) a1_9) (1 : Int32) ((xu (xu I_9 123 27 (0 : Int32)) 153 (ix ((xu I_9 123 27 (0 : Int32)) 123 30)) a1_9) 123 31)) else (mX12_rule_79 (xu (xu I_9 123 27 (0 : Int32)) 153 (ix ((xu I_9 123 27 (0 : Int32)) 123 30)) a1_9) (0 : Int32) ((xu (xu I_9 123 27 (0 : Int32)) 153 (ix ((xu I_9 123 27 (0 : Int32)) 123 30)) a1_9) 123 31))) else none)) xf q2 (0 : Int32) (1 : Int32)))))
set_option maxHeartbeats 400000 in
set_option maxRecDepth 100000 in
theorem kX12_rule {E : xE} {B : Nat} {n : Nat} {K : Nat → Nat × Nat} {P : Nat → Nat → Nat} {I : Nat → Nat → Int32} {L : Nat → Nat → Int64}   {q : Int32 × (Nat → Nat → Int32)} (d : Nat) (hd : 13 ≤ d) (G : GW K P)   (hm : mX12_rule I = some q) : MX E B d 0 0 yX12_rule cX12_rule 3 (some .int) [.ref 123] (n, K, P, I, L) (some (.int q.1), (n, K, P, q.2, L)) := by
  refine MX_of (lv := [(0, .ref 123)]) (by decide +kernel) (Nat.le_of_ble_eq_true rfl) rfl ?_
  obtain ⟨d, rfl⟩ : ∃ d0, d = d0 + 1 := ⟨d - 1, by omega⟩
  unfold mX12_rule at hm
  refine X_aload_n 0 dX12_rule_0 rfl rfl rfl ?_
  refine X_getI fl_X12_362 (g_K123 G) rfl dX12_rule_1 ?_
  refine X_bipush (v := (6 : Int32)) dX12_rule_4 (by decide) ?_
  refine X_icmp_ne (tgt := 11) dX12_rule_6 (by decide) (fun c1 => ?_) (fun c1 => ?_)
  · replace hm := iq c1 hm
    refine X_aload_n 0 dX12_rule_11 rfl rfl rfl ?_
    refine X_aload_n 0 dX12_rule_12 rfl rfl rfl ?_
    refine X_getI fl_X12_362 (g_K123 G) rfl dX12_rule_13 ?_
    refine X_putI fl_X12_229 (g_K123 G) rfl rfl dX12_rule_16 ?_
    refine X_aload_n 0 dX12_rule_19 rfl rfl rfl ?_
    obtain ⟨q2, e3, hm⟩ := ob hm
    refine X_cV0 (ci := 11) (kX12_starts d (by omega) G e3) ml_X12_323 mi_X12_starts rfl cf_11 (g_K123 G) rfl rfl (Nat.le_refl _) ⟨Nat.le_refl _, Nat.le_refl _⟩ (Nat.le_of_ble_eq_true rfl) dX12_rule_20 ?_
    refine X_iconst (v := (0 : Int32)) dX12_rule_23 (by decide) ?_
    refine X_istore_n (lv' := [(1, .int (0 : Int32)), (0, .ref 123)]) dX12_rule_24 rfl (by decide) rfl ?_
    refine X_iconst (v := (1 : Int32)) dX12_rule_25 (by decide) ?_
    refine X_istore_n (lv' := [(2, .int (1 : Int32)), (1, .int (0 : Int32)), (0, .ref 123)]) dX12_rule_26 rfl (by decide) rfl ?_
    refine X_lv [2, 1, 0] rfl (kX12_rule_27 _ hd G (fun I_9 a1_9 hm => ?_) xf _ _ _  hm)
    refine X_aload_n 0 dX12_rule_47 rfl rfl rfl ?_
    refine X_iconst (v := (0 : Int32)) dX12_rule_48 (by decide) ?_
    refine X_putI fl_X12_168 (g_K123 G) rfl rfl dX12_rule_49 ?_
    refine X_aload_n 0 dX12_rule_52 rfl rfl rfl ?_
    refine X_getPe fl_X12_102 (g_K123 G) rfl (g_P123_40 G) dX12_rule_53 ?_
    refine X_aload_n 0 dX12_rule_56 rfl rfl rfl ?_
    refine X_getI fl_X12_229 (g_K123 G) rfl dX12_rule_57 ?_
    refine X_iload_n 1 dX12_rule_60 rfl rfl ?_
    obtain ⟨g10, hm⟩ := og hm
    refine X_iastJ (g_K153 G) g10 rfl dX12_rule_61 ?_
    refine X_aload_n 0 dX12_rule_62 rfl rfl rfl ?_
    refine X_dup dX12_rule_63 rfl ?_
    refine X_getI fl_X12_362 (g_K123 G) rfl dX12_rule_64 ?_
    refine X_aload_n 0 dX12_rule_67 rfl rfl rfl ?_
    refine X_getI fl_X12_199 (g_K123 G) rfl dX12_rule_68 ?_
    refine X_if_ne (tgt := 78) dX12_rule_71 (by decide) (fun c11 => ?_) (fun c11 => ?_)
    · replace hm := iq c11 hm
      refine X_iconst (v := (0 : Int32)) dX12_rule_78 (by decide) ?_
      exact X_lv [0] rfl (kX12_rule_79 _ hd G hm)
    · replace hm := ip c11 hm
      refine X_iconst (v := (1 : Int32)) dX12_rule_74 (by decide) ?_
      refine X_goto (tgt := 79) dX12_rule_75 (by decide) ?_
      exact X_lv [0] rfl (kX12_rule_79 _ hd G hm)
  · replace hm := ip c1 hm
    refine X_iconst (v := (-1 : Int32)) dX12_rule_9 (by decide) ?_
    replace hm := Option.some.inj hm
    subst hm
    exact X_iret dX12_rule_10 rfl
def mX12_force  (I : Nat → Nat → Int32) (a1 : Int32) : Option (Int32 × (Nat → Nat → Int32)) := (Option.bind (mX12_in a1.toInt64 (-1 : Int64) ((I 123 31) - (1 : Int32)).toInt64) (fun q1 => (if q1 = 0 then (some ((-2 : Int32), I)) else (some ((I 124 12), (xu I 124 12 a1))))))
set_option maxHeartbeats 400000 in
set_option maxRecDepth 100000 in
theorem kX12_force {E : xE} {B : Nat} {n : Nat} {K : Nat → Nat × Nat} {P : Nat → Nat → Nat} {I : Nat → Nat → Int32} {L : Nat → Nat → Int64}  {a1 : Int32} {q : Int32 × (Nat → Nat → Int32)} (d : Nat) (hd : 1 ≤ d) (G : GW K P)   (hm : mX12_force I a1 = some q) : MX E B d 0 0 yX12_force cX12_force 3 (some .int) [.ref 123, .int a1] (n, K, P, I, L) (some (.int q.1), (n, K, P, q.2, L)) := by
  refine MX_of (lv := [(0, .ref 123), (1, .int a1)]) (by decide +kernel) (Nat.le_of_ble_eq_true rfl) rfl ?_
  obtain ⟨d, rfl⟩ : ∃ d0, d = d0 + 1 := ⟨d - 1, by omega⟩
  unfold mX12_force at hm
  refine X_iload_n 1 dX12_force_0 rfl rfl ?_
  refine X_i2l dX12_force_1 ?_
  refine X_ldc2 lc_X12_368 dX12_force_2 ?_
  refine X_aload_n 0 dX12_force_5 rfl rfl rfl ?_
  refine X_getI fl_X12_362 (g_K123 G) rfl dX12_force_6 ?_
  refine X_iconst (v := (1 : Int32)) dX12_force_9 (by decide) ?_
  refine X_isub dX12_force_10 ?_
  refine X_i2l dX12_force_11 ?_
  obtain ⟨q1, e2, hm⟩ := ob hm
  refine X_cS1 (kX12_in d (by omega) G e2) ml_X12_164 ms_X12_in rfl rfl (Nat.le_refl _) ⟨Nat.le_refl _, Nat.le_refl _⟩ (Nat.le_of_ble_eq_true rfl) dX12_force_12 ?_
  refine X_if_ne (tgt := 21) dX12_force_15 (by decide) (fun c3 => ?_) (fun c3 => ?_)
  · replace hm := iq c3 hm
    refine X_aload_n 0 dX12_force_21 rfl rfl rfl ?_
    refine X_getPe fl_X12_9 (g_K123 G) rfl (g_P123_1 G) dX12_force_22 ?_
    refine X_bipush (v := (12 : Int32)) dX12_force_25 (by decide) ?_
    refine X_ialdJ (j := 12) (g_K124 G) rfl (by decide) dX12_force_27 ?_
    refine X_istore_n (lv' := [(2, .int (I 124 12)), (0, .ref 123), (1, .int a1)]) dX12_force_28 rfl (by decide) rfl ?_
    refine X_aload_n 1 dX12_force_29 rfl rfl rfl ?_
    refine X_getPe fl_X12_9 (g_K123 G) rfl (g_P123_1 G) dX12_force_30 ?_
    refine X_bipush (v := (12 : Int32)) dX12_force_33 (by decide) ?_
    refine X_iload_n 2 dX12_force_35 rfl rfl ?_
    refine X_iastJ (j := 12) (g_K124 G) rfl (by decide) dX12_force_36 ?_
    refine X_iload_n 0 dX12_force_37 rfl rfl ?_
    replace hm := Option.some.inj hm
    subst hm
    exact X_iret dX12_force_38 rfl
  · replace hm := ip c3 hm
    refine X_bipush (v := (-2 : Int32)) dX12_force_18 (by decide) ?_
    replace hm := Option.some.inj hm
    subst hm
    exact X_iret dX12_force_20 rfl
def mX12_truth  (a0 : Int32) : Option (Int64) := (if a0 = 0 then (some (0 : Int64)) else (some (1 : Int64)))
set_option maxHeartbeats 400000 in
set_option maxRecDepth 100000 in
theorem kX12_truth {E : xE} {B : Nat} {n : Nat} {K : Nat → Nat × Nat} {P : Nat → Nat → Nat} {I : Nat → Nat → Int32} {L : Nat → Nat → Int64}  {a0 : Int32} {q : Int64} (d : Nat) (hd : 0 ≤ d) (G : GW K P)   (hm : mX12_truth a0 = some q) : MX E B d 0 0 yX12_truth cX12_truth 1 (some .long) [.int a0] (n, K, P, I, L) (some (.long q), (n, K, P, I, L)) := by
  refine MX_of (lv := [(0, .int a0)]) (by decide +kernel) (Nat.le_of_ble_eq_true rfl) rfl ?_
  unfold mX12_truth at hm
  refine X_iload_n 0 dX12_truth_0 rfl rfl ?_
  refine X_if_eq (tgt := 8) dX12_truth_1 (by decide) (fun c1 => ?_) (fun c1 => ?_)
  · replace hm := ip c1 hm
    refine X_lconst (v := (0 : Int64)) dX12_truth_8 (by decide) ?_
    replace hm := Option.some.inj hm
    subst hm
    exact X_lret dX12_truth_9 rfl
  · replace hm := iq c1 hm
    refine X_lconst (v := (1 : Int64)) dX12_truth_4 (by decide) ?_
    refine X_goto (tgt := 9) dX12_truth_5 (by decide) ?_
    replace hm := Option.some.inj hm
    subst hm
    exact X_lret dX12_truth_9 rfl
def mX12_both_123  (t0 : Int32) : Option (Int64) := (Option.bind (mX12_truth t0) (fun q5 => (some q5)))
set_option maxHeartbeats 400000 in
set_option maxRecDepth 100000 in
theorem kX12_both_123 {E : xE} {B : Nat} {n : Nat} {K : Nat → Nat × Nat} {P : Nat → Nat → Nat} {I : Nat → Nat → Int32} {L : Nat → Nat → Int64}   {t0 : Int32} {q : Int64} (d : Nat) (hd : 1 ≤ d) (G : GW K P)    (hm : mX12_both_123 t0 = some q) : X E B d 0 0 yX12_both cX12_both 5 (some .long) (some (.long q), (n, K, P, I, L)) 123 [] [.int t0] 0 0 (n, K, P, I, L) := by
  obtain ⟨d, rfl⟩ : ∃ d0, d = d0 + 1 := ⟨d - 1, by omega⟩
  unfold mX12_both_123 at hm
  obtain ⟨q5, e6, hm⟩ := ob hm
  refine X_cS1 (kX12_truth d (by omega) G e6) ml_X12_374 ms_X12_truth rfl rfl (Nat.le_refl _) ⟨Nat.le_refl _, Nat.le_refl _⟩ (Nat.le_of_ble_eq_true rfl) dX12_both_123 ?_
  replace hm := Option.some.inj hm
  subst hm
  exact X_lret dX12_both_126 rfl
def mX12_both_138  (t0 : Int32) : Option (Int64) := (Option.bind (mX12_truth t0) (fun q9 => (some q9)))
set_option maxHeartbeats 400000 in
set_option maxRecDepth 100000 in
theorem kX12_both_138 {E : xE} {B : Nat} {n : Nat} {K : Nat → Nat × Nat} {P : Nat → Nat → Nat} {I : Nat → Nat → Int32} {L : Nat → Nat → Int64}   {t0 : Int32} {q : Int64} (d : Nat) (hd : 1 ≤ d) (G : GW K P)    (hm : mX12_both_138 t0 = some q) : X E B d 0 0 yX12_both cX12_both 5 (some .long) (some (.long q), (n, K, P, I, L)) 138 [] [.int t0] 0 0 (n, K, P, I, L) := by
  obtain ⟨d, rfl⟩ : ∃ d0, d = d0 + 1 := ⟨d - 1, by omega⟩
  unfold mX12_both_138 at hm
  obtain ⟨q9, e10, hm⟩ := ob hm
  refine X_cS1 (kX12_truth d (by omega) G e10) ml_X12_374 ms_X12_truth rfl rfl (Nat.le_refl _) ⟨Nat.le_refl _, Nat.le_refl _⟩ (Nat.le_of_ble_eq_true rfl) dX12_both_138 ?_
  replace hm := Option.some.inj hm
  subst hm
  exact X_lret dX12_both_141 rfl
def mX12_both_153  (t0 : Int32) : Option (Int64) := (Option.bind (mX12_truth t0) (fun q13 => (some q13)))
set_option maxHeartbeats 400000 in
set_option maxRecDepth 100000 in
theorem kX12_both_153 {E : xE} {B : Nat} {n : Nat} {K : Nat → Nat × Nat} {P : Nat → Nat → Nat} {I : Nat → Nat → Int32} {L : Nat → Nat → Int64}   {t0 : Int32} {q : Int64} (d : Nat) (hd : 1 ≤ d) (G : GW K P)    (hm : mX12_both_153 t0 = some q) : X E B d 0 0 yX12_both cX12_both 5 (some .long) (some (.long q), (n, K, P, I, L)) 153 [] [.int t0] 0 0 (n, K, P, I, L) := by
  obtain ⟨d, rfl⟩ : ∃ d0, d = d0 + 1 := ⟨d - 1, by omega⟩
  unfold mX12_both_153 at hm
  obtain ⟨q13, e14, hm⟩ := ob hm
  refine X_cS1 (kX12_truth d (by omega) G e14) ml_X12_374 ms_X12_truth rfl rfl (Nat.le_refl _) ⟨Nat.le_refl _, Nat.le_refl _⟩ (Nat.le_of_ble_eq_true rfl) dX12_both_153 ?_
  replace hm := Option.some.inj hm
  subst hm
  exact X_lret dX12_both_156 rfl
def mX12_both_168  (t0 : Int32) : Option (Int64) := (Option.bind (mX12_truth t0) (fun q17 => (some q17)))
set_option maxHeartbeats 400000 in
set_option maxRecDepth 100000 in
theorem kX12_both_168 {E : xE} {B : Nat} {n : Nat} {K : Nat → Nat × Nat} {P : Nat → Nat → Nat} {I : Nat → Nat → Int32} {L : Nat → Nat → Int64}   {t0 : Int32} {q : Int64} (d : Nat) (hd : 1 ≤ d) (G : GW K P)    (hm : mX12_both_168 t0 = some q) : X E B d 0 0 yX12_both cX12_both 5 (some .long) (some (.long q), (n, K, P, I, L)) 168 [] [.int t0] 0 0 (n, K, P, I, L) := by
  obtain ⟨d, rfl⟩ : ∃ d0, d = d0 + 1 := ⟨d - 1, by omega⟩
  unfold mX12_both_168 at hm
  obtain ⟨q17, e18, hm⟩ := ob hm
  refine X_cS1 (kX12_truth d (by omega) G e18) ml_X12_374 ms_X12_truth rfl rfl (Nat.le_refl _) ⟨Nat.le_refl _, Nat.le_refl _⟩ (Nat.le_of_ble_eq_true rfl) dX12_both_168 ?_
  replace hm := Option.some.inj hm
  subst hm
  exact X_lret dX12_both_171 rfl
def mX12_both_183  (t0 : Int32) : Option (Int64) := (Option.bind (mX12_truth t0) (fun q21 => (some q21)))
set_option maxHeartbeats 400000 in
set_option maxRecDepth 100000 in
theorem kX12_both_183 {E : xE} {B : Nat} {n : Nat} {K : Nat → Nat × Nat} {P : Nat → Nat → Nat} {I : Nat → Nat → Int32} {L : Nat → Nat → Int64}   {t0 : Int32} {q : Int64} (d : Nat) (hd : 1 ≤ d) (G : GW K P)    (hm : mX12_both_183 t0 = some q) : X E B d 0 0 yX12_both cX12_both 5 (some .long) (some (.long q), (n, K, P, I, L)) 183 [] [.int t0] 0 0 (n, K, P, I, L) := by
  obtain ⟨d, rfl⟩ : ∃ d0, d = d0 + 1 := ⟨d - 1, by omega⟩
  unfold mX12_both_183 at hm
  obtain ⟨q21, e22, hm⟩ := ob hm
  refine X_cS1 (kX12_truth d (by omega) G e22) ml_X12_374 ms_X12_truth rfl rfl (Nat.le_refl _) ⟨Nat.le_refl _, Nat.le_refl _⟩ (Nat.le_of_ble_eq_true rfl) dX12_both_183 ?_
  replace hm := Option.some.inj hm
  subst hm
  exact X_lret dX12_both_186 rfl
def mX12_both  (a0 : Int32) (a1 : Int64) (a3 : Int64) : Option (Int64) := (if a0 = (2 : Int32) then (some (a1 + a3)) else (if a0 = (3 : Int32) then (some (a1 - a3)) else (if a0 = (4 : Int32) then (if 0 ≤ (lg_cmp a1 a3) then (mX12_both_123 (0 : Int32)) else (mX12_both_123 (1 : Int32))) else (if a0 = (5 : Int32) then (if 0 < (lg_cmp a1 a3) then (mX12_both_138 (0 : Int32)) else (mX12_both_138 (1 : Int32))) else (if a0 = (6 : Int32) then (if (lg_cmp a1 a3) = 0 then (mX12_both_153 (1 : Int32)) else (mX12_both_153 (0 : Int32))) else (if a0 = (7 : Int32) then (if (lg_cmp a1 a3) < 0 then (mX12_both_168 (0 : Int32)) else (mX12_both_168 (1 : Int32))) else (if a0 = (8 : Int32) then (if (lg_cmp a1 a3) ≤ 0 then (mX12_both_183 (0 : Int32)) else (mX12_both_183 (1 : Int32))) else (if a0 = (9 : Int32) then (some (a1 ||| a3)) else (if a0 = (10 : Int32) then (some (a1 &&& a3)) else (if a0 = (11 : Int32) then (some (a1 ||| a3)) else (if a0 = (12 : Int32) then (some (a1 ||| a3)) else (if a0 = (13 : Int32) then (some (a1 * a3)) else (if a0 = (14 : Int32) then (if (lg_cmp a3 (0 : Int64)) = 0 then (some (0 : Int64)) else (if ¬ a3 = 0 then (some (a1 / a3)) else none)) else (if a0 = (15 : Int32) then (if (lg_cmp a3 (0 : Int64)) = 0 then (some (0 : Int64)) else (if ¬ a3 = 0 then (some (xlrem a1 a3)) else none)) else (some (a1 ||| a3))))))))))))))))
set_option maxHeartbeats 400000 in
set_option maxRecDepth 100000 in
theorem kX12_both {E : xE} {B : Nat} {n : Nat} {K : Nat → Nat × Nat} {P : Nat → Nat → Nat} {I : Nat → Nat → Int32} {L : Nat → Nat → Int64}  {a0 : Int32} {a1 : Int64} {a3 : Int64} {q : Int64} (d : Nat) (hd : 1 ≤ d) (G : GW K P)   (hm : mX12_both a0 a1 a3 = some q) : MX E B d 0 0 yX12_both cX12_both 5 (some .long) [.int a0, .long a1, .long a3] (n, K, P, I, L) (some (.long q), (n, K, P, I, L)) := by
  refine MX_of (lv := [(0, .int a0), (1, .long a1), (3, .long a3)]) (by decide +kernel) (Nat.le_of_ble_eq_true rfl) rfl ?_
  obtain ⟨d, rfl⟩ : ∃ d0, d = d0 + 1 := ⟨d - 1, by omega⟩
  unfold mX12_both at hm
  refine X_iload_n 0 dX12_both_0 rfl rfl ?_
  rcases Decidable.em (a0 = (2 : Int32)) with c1 | c1
  · replace hm := ip c1 hm
    refine X_swK (off := 71) (tgt := 72) c1 dX12_both_1 (by decide) (by decide) (by decide) (by decide) ?_
    refine X_lload_n 1 dX12_both_72 rfl rfl ?_
    refine X_lload_n 2 dX12_both_73 rfl rfl ?_
    refine X_ladd dX12_both_74 ?_
    replace hm := Option.some.inj hm
    subst hm
    exact X_lret dX12_both_75 rfl
  · replace hm := iq c1 hm
    rcases Decidable.em (a0 = (3 : Int32)) with c2 | c2
    · replace hm := ip c2 hm
      refine X_swK (off := 75) (tgt := 76) c2 dX12_both_1 (by decide) (by decide) (by decide) (by decide) ?_
      refine X_lload_n 1 dX12_both_76 rfl rfl ?_
      refine X_lload_n 2 dX12_both_77 rfl rfl ?_
      refine X_lsub dX12_both_78 ?_
      replace hm := Option.some.inj hm
      subst hm
      exact X_lret dX12_both_79 rfl
    · replace hm := iq c2 hm
      rcases Decidable.em (a0 = (4 : Int32)) with c3 | c3
      · replace hm := ip c3 hm
        refine X_swK (off := 111) (tgt := 112) c3 dX12_both_1 (by decide) (by decide) (by decide) (by decide) ?_
        refine X_lload_n 1 dX12_both_112 rfl rfl ?_
        refine X_lload_n 2 dX12_both_113 rfl rfl ?_
        refine X_lcmp dX12_both_114 ?_
        refine X_if_ge (tgt := 122) dX12_both_115 (by decide) (fun c4 => ?_) (fun c4 => ?_)
        · replace hm := ip c4 hm
          refine X_iconst (v := (0 : Int32)) dX12_both_122 (by decide) ?_
          exact X_lv [] rfl (kX12_both_123 _ hd G hm)
        · replace hm := iq c4 hm
          refine X_iconst (v := (1 : Int32)) dX12_both_118 (by decide) ?_
          refine X_goto (tgt := 123) dX12_both_119 (by decide) ?_
          exact X_lv [] rfl (kX12_both_123 _ hd G hm)
      · replace hm := iq c3 hm
        rcases Decidable.em (a0 = (5 : Int32)) with c7 | c7
        · replace hm := ip c7 hm
          refine X_swK (off := 126) (tgt := 127) c7 dX12_both_1 (by decide) (by decide) (by decide) (by decide) ?_
          refine X_lload_n 1 dX12_both_127 rfl rfl ?_
          refine X_lload_n 2 dX12_both_128 rfl rfl ?_
          refine X_lcmp dX12_both_129 ?_
          refine X_if_gt (tgt := 137) dX12_both_130 (by decide) (fun c8 => ?_) (fun c8 => ?_)
          · replace hm := ip c8 hm
            refine X_iconst (v := (0 : Int32)) dX12_both_137 (by decide) ?_
            exact X_lv [] rfl (kX12_both_138 _ hd G hm)
          · replace hm := iq c8 hm
            refine X_iconst (v := (1 : Int32)) dX12_both_133 (by decide) ?_
            refine X_goto (tgt := 138) dX12_both_134 (by decide) ?_
            exact X_lv [] rfl (kX12_both_138 _ hd G hm)
        · replace hm := iq c7 hm
          rcases Decidable.em (a0 = (6 : Int32)) with c11 | c11
          · replace hm := ip c11 hm
            refine X_swK (off := 141) (tgt := 142) c11 dX12_both_1 (by decide) (by decide) (by decide) (by decide) ?_
            refine X_lload_n 1 dX12_both_142 rfl rfl ?_
            refine X_lload_n 2 dX12_both_143 rfl rfl ?_
            refine X_lcmp dX12_both_144 ?_
            refine X_if_ne (tgt := 152) dX12_both_145 (by decide) (fun c12 => ?_) (fun c12 => ?_)
            · replace hm := iq c12 hm
              refine X_iconst (v := (0 : Int32)) dX12_both_152 (by decide) ?_
              exact X_lv [] rfl (kX12_both_153 _ hd G hm)
            · replace hm := ip c12 hm
              refine X_iconst (v := (1 : Int32)) dX12_both_148 (by decide) ?_
              refine X_goto (tgt := 153) dX12_both_149 (by decide) ?_
              exact X_lv [] rfl (kX12_both_153 _ hd G hm)
          · replace hm := iq c11 hm
            rcases Decidable.em (a0 = (7 : Int32)) with c15 | c15
            · replace hm := ip c15 hm
              refine X_swK (off := 156) (tgt := 157) c15 dX12_both_1 (by decide) (by decide) (by decide) (by decide) ?_
              refine X_lload_n 1 dX12_both_157 rfl rfl ?_
              refine X_lload_n 2 dX12_both_158 rfl rfl ?_
              refine X_lcmp dX12_both_159 ?_
              refine X_if_lt (tgt := 167) dX12_both_160 (by decide) (fun c16 => ?_) (fun c16 => ?_)
              · replace hm := ip c16 hm
                refine X_iconst (v := (0 : Int32)) dX12_both_167 (by decide) ?_
                exact X_lv [] rfl (kX12_both_168 _ hd G hm)
              · replace hm := iq c16 hm
                refine X_iconst (v := (1 : Int32)) dX12_both_163 (by decide) ?_
                refine X_goto (tgt := 168) dX12_both_164 (by decide) ?_
                exact X_lv [] rfl (kX12_both_168 _ hd G hm)
            · replace hm := iq c15 hm
              rcases Decidable.em (a0 = (8 : Int32)) with c19 | c19
              · replace hm := ip c19 hm
                refine X_swK (off := 171) (tgt := 172) c19 dX12_both_1 (by decide) (by decide) (by decide) (by decide) ?_
                refine X_lload_n 1 dX12_both_172 rfl rfl ?_
                refine X_lload_n 2 dX12_both_173 rfl rfl ?_
                refine X_lcmp dX12_both_174 ?_
                refine X_if_le (tgt := 182) dX12_both_175 (by decide) (fun c20 => ?_) (fun c20 => ?_)
                · replace hm := ip c20 hm
                  refine X_iconst (v := (0 : Int32)) dX12_both_182 (by decide) ?_
                  exact X_lv [] rfl (kX12_both_183 _ hd G hm)
                · replace hm := iq c20 hm
                  refine X_iconst (v := (1 : Int32)) dX12_both_178 (by decide) ?_
                  refine X_goto (tgt := 183) dX12_both_179 (by decide) ?_
                  exact X_lv [] rfl (kX12_both_183 _ hd G hm)
              · replace hm := iq c19 hm
                rcases Decidable.em (a0 = (9 : Int32)) with c23 | c23
                · replace hm := ip c23 hm
                  refine X_swK (off := 190) (tgt := 191) c23 dX12_both_1 (by decide) (by decide) (by decide) (by decide) ?_
                  refine X_lload_n 1 dX12_both_191 rfl rfl ?_
                  refine X_lload_n 2 dX12_both_192 rfl rfl ?_
                  refine X_lor dX12_both_193 ?_
                  replace hm := Option.some.inj hm
                  subst hm
                  exact X_lret dX12_both_194 rfl
                · replace hm := iq c23 hm
                  rcases Decidable.em (a0 = (10 : Int32)) with c24 | c24
                  · replace hm := ip c24 hm
                    refine X_swK (off := 186) (tgt := 187) c24 dX12_both_1 (by decide) (by decide) (by decide) (by decide) ?_
                    refine X_lload_n 1 dX12_both_187 rfl rfl ?_
                    refine X_lload_n 2 dX12_both_188 rfl rfl ?_
                    refine X_land dX12_both_189 ?_
                    replace hm := Option.some.inj hm
                    subst hm
                    exact X_lret dX12_both_190 rfl
                  · replace hm := iq c24 hm
                    rcases Decidable.em (a0 = (11 : Int32)) with c25 | c25
                    · replace hm := ip c25 hm
                      refine X_swK (off := 190) (tgt := 191) c25 dX12_both_1 (by decide) (by decide) (by decide) (by decide) ?_
                      refine X_lload_n 1 dX12_both_191 rfl rfl ?_
                      refine X_lload_n 2 dX12_both_192 rfl rfl ?_
                      refine X_lor dX12_both_193 ?_
                      replace hm := Option.some.inj hm
                      subst hm
                      exact X_lret dX12_both_194 rfl
                    · replace hm := iq c25 hm
                      rcases Decidable.em (a0 = (12 : Int32)) with c26 | c26
                      · replace hm := ip c26 hm
                        refine X_swK (off := 190) (tgt := 191) c26 dX12_both_1 (by decide) (by decide) (by decide) (by decide) ?_
                        refine X_lload_n 1 dX12_both_191 rfl rfl ?_
                        refine X_lload_n 2 dX12_both_192 rfl rfl ?_
                        refine X_lor dX12_both_193 ?_
                        replace hm := Option.some.inj hm
                        subst hm
                        exact X_lret dX12_both_194 rfl
                      · replace hm := iq c26 hm
                        rcases Decidable.em (a0 = (13 : Int32)) with c27 | c27
                        · replace hm := ip c27 hm
                          refine X_swK (off := 79) (tgt := 80) c27 dX12_both_1 (by decide) (by decide) (by decide) (by decide) ?_
                          refine X_lload_n 1 dX12_both_80 rfl rfl ?_
                          refine X_lload_n 2 dX12_both_81 rfl rfl ?_
                          refine X_lmul dX12_both_82 ?_
                          replace hm := Option.some.inj hm
                          subst hm
                          exact X_lret dX12_both_83 rfl
                        · replace hm := iq c27 hm
                          rcases Decidable.em (a0 = (14 : Int32)) with c28 | c28
                          · replace hm := ip c28 hm
                            refine X_swK (off := 83) (tgt := 84) c28 dX12_both_1 (by decide) (by decide) (by decide) (by decide) ?_
                            refine X_lload_n 2 dX12_both_84 rfl rfl ?_
                            refine X_lconst (v := (0 : Int64)) dX12_both_85 (by decide) ?_
                            refine X_lcmp dX12_both_86 ?_
                            refine X_if_ne (tgt := 94) dX12_both_87 (by decide) (fun c29 => ?_) (fun c29 => ?_)
                            · replace hm := iq c29 hm
                              refine X_lload_n 1 dX12_both_94 rfl rfl ?_
                              refine X_lload_n 2 dX12_both_95 rfl rfl ?_
                              obtain ⟨g30, hm⟩ := og hm
                              refine X_ldiv dX12_both_96 g30 ?_
                              replace hm := Option.some.inj hm
                              subst hm
                              exact X_lret dX12_both_97 rfl
                            · replace hm := ip c29 hm
                              refine X_lconst (v := (0 : Int64)) dX12_both_90 (by decide) ?_
                              refine X_goto (tgt := 97) dX12_both_91 (by decide) ?_
                              replace hm := Option.some.inj hm
                              subst hm
                              exact X_lret dX12_both_97 rfl
                          · replace hm := iq c28 hm
                            rcases Decidable.em (a0 = (15 : Int32)) with c31 | c31
                            · replace hm := ip c31 hm
                              refine X_swK (off := 97) (tgt := 98) c31 dX12_both_1 (by decide) (by decide) (by decide) (by decide) ?_
                              refine X_lload_n 2 dX12_both_98 rfl rfl ?_
                              refine X_lconst (v := (0 : Int64)) dX12_both_99 (by decide) ?_
                              refine X_lcmp dX12_both_100 ?_
                              refine X_if_ne (tgt := 108) dX12_both_101 (by decide) (fun c32 => ?_) (fun c32 => ?_)
                              · replace hm := iq c32 hm
                                refine X_lload_n 1 dX12_both_108 rfl rfl ?_
                                refine X_lload_n 2 dX12_both_109 rfl rfl ?_
                                obtain ⟨g33, hm⟩ := og hm
                                refine X_lrem dX12_both_110 g33 ?_
                                replace hm := Option.some.inj hm
                                subst hm
                                exact X_lret dX12_both_111 rfl
                              · replace hm := ip c32 hm
                                refine X_lconst (v := (0 : Int64)) dX12_both_104 (by decide) ?_
                                refine X_goto (tgt := 111) dX12_both_105 (by decide) ?_
                                replace hm := Option.some.inj hm
                                subst hm
                                exact X_lret dX12_both_111 rfl
                            · replace hm := iq c31 hm
                              refine X_tableOut (tgt := 191) dX12_both_1 (sw_out 14 (by decide) (fun i hi => by
                                have hi2 : i = 0 ∨ i = 1 ∨ i = 2 ∨ i = 3 ∨ i = 4 ∨ i = 5 ∨ i = 6 ∨ i = 7 ∨ i = 8 ∨ i = 9 ∨ i = 10 ∨ i = 11 ∨ i = 12 ∨ i = 13 := by omega
                                rcases hi2 with rfl | rfl | rfl | rfl | rfl | rfl | rfl | rfl | rfl | rfl | rfl | rfl | rfl | rfl
                                · exact c1
                                · exact c2
                                · exact c3
                                · exact c7
                                · exact c11
                                · exact c15
                                · exact c19
                                · exact c23
                                · exact c24
                                · exact c25
                                · exact c26
                                · exact c27
                                · exact c28
                                · exact c31)) (by decide) ?_
                              refine X_lload_n 1 dX12_both_191 rfl rfl ?_
                              refine X_lload_n 2 dX12_both_192 rfl rfl ?_
                              refine X_lor dX12_both_193 ?_
                              replace hm := Option.some.inj hm
                              subst hm
                              exact X_lret dX12_both_194 rfl
def mX12_answer_53 (I : Nat → Nat → Int32) (b6 : (Nat → Nat → Int64) → Int32 → Int32 → Int32 → Int32 → Option (Int64 × (Nat → Nat → Int64))) (L : Nat → Nat → Int64) (a1 : Int32) (a3 : Int32) (a4 : Int32) (a5 : Int32) (a6 : Int32) (a7 : Int32) : Option (Int64 × (Nat → Nat → Int64)) := (if a6 = 0 then (if inb a4 300 = true then (b6 (xu L 159 (ix a4) a7.toInt64) a1 a3 (a4 + 1) (a5 + 1)) else none) else (if inb a7 13 = true then (if inb a4 300 = true then (b6 (xu L 159 (ix a4) (L 158 (ix a7))) a1 a3 (a4 + 1) (a5 + 1)) else none) else none))
set_option maxHeartbeats 400000 in
set_option maxRecDepth 100000 in
theorem kX12_answer_53 {E : xE} {B : Nat} {n : Nat} {K : Nat → Nat × Nat} {P : Nat → Nat → Nat} {I : Nat → Nat → Int32} {L : Nat → Nat → Int64}  {b6 : (Nat → Nat → Int64) → Int32 → Int32 → Int32 → Int32 → Option (Int64 × (Nat → Nat → Int64))} {a1 : Int32} {a3 : Int32} {a4 : Int32} {a5 : Int32} {a6 : Int32} {a7 : Int32} {q : Int64 × (Nat → Nat → Int64)} (d : Nat) (hd : 2 ≤ d) (G : GW K P)  (hb6 : ∀ (L : Nat → Nat → Int64) (a1 : Int32) (a3 : Int32) (a4 : Int32) (a5 : Int32), b6 L a1 a3 a4 a5 = some q → X E B d 0 0 yX12_answer cX12_answer 8 (some .long) (some (.long q.1), (n, K, P, I, q.2)) 6 [(0, .ref 123), (1, .int a1), (3, .int a3), (4, .int a4), (5, .int a5)] [] 0 0 (n, K, P, I, L))  (hm : mX12_answer_53 I b6 L a1 a3 a4 a5 a6 a7 = some q) : X E B d 0 0 yX12_answer cX12_answer 8 (some .long) (some (.long q.1), (n, K, P, I, q.2)) 53 [(0, .ref 123), (1, .int a1), (3, .int a3), (4, .int a4), (5, .int a5), (6, .int a6), (7, .int a7)] [] 0 0 (n, K, P, I, L) := by
  obtain ⟨d, rfl⟩ : ∃ d0, d = d0 + 1 := ⟨d - 1, by omega⟩
  unfold mX12_answer_53 at hm
  refine X_aload_n 0 dX12_answer_53 rfl rfl rfl ?_
  refine X_getPe fl_X12_121 (g_K123 G) rfl (g_P123_46 G) dX12_answer_54 ?_
  refine X_iload 3 dX12_answer_57 rfl ?_
  refine X_iload 5 dX12_answer_59 rfl ?_
  refine X_if_ne (tgt := 70) dX12_answer_61 (by decide) (fun c5 => ?_) (fun c5 => ?_)
  · replace hm := iq c5 hm
    refine X_aload_n 0 dX12_answer_70 rfl rfl rfl ?_
    refine X_getPe fl_X12_117 (g_K123 G) rfl (g_P123_45 G) dX12_answer_71 ?_
    refine X_iload 6 dX12_answer_74 rfl ?_
    obtain ⟨g6, hm⟩ := og hm
    refine X_laldJ (g_K158 G) g6 rfl dX12_answer_76 ?_
    obtain ⟨g7, hm⟩ := og hm
    refine X_lastJ (g_K159 G) g7 rfl dX12_answer_77 ?_
    refine X_iinc (lv' := [(4, .int (a4 + 1)), (0, .ref 123), (1, .int a1), (3, .int a3), (5, .int a5), (6, .int a6), (7, .int a7)]) 3 dX12_answer_78 rfl rfl (by decide) rfl ?_
    refine X_goto (tgt := 147) dX12_answer_81 (by decide) ?_
    refine X_iinc (lv' := [(5, .int (a5 + 1)), (4, .int (a4 + 1)), (0, .ref 123), (1, .int a1), (3, .int a3), (6, .int a6), (7, .int a7)]) 4 dX12_answer_147 rfl rfl (by decide) rfl ?_
    refine X_goto (tgt := 6) dX12_answer_150 (by decide) ?_
    exact X_lv [2, 3, 4, 1, 0] rfl (hb6 _ _ _ _ _ hm)
  · replace hm := ip c5 hm
    refine X_iload 6 dX12_answer_64 rfl ?_
    refine X_i2l dX12_answer_66 ?_
    refine X_goto (tgt := 77) dX12_answer_67 (by decide) ?_
    obtain ⟨g8, hm⟩ := og hm
    refine X_lastJ (g_K159 G) g8 rfl dX12_answer_77 ?_
    refine X_iinc (lv' := [(4, .int (a4 + 1)), (0, .ref 123), (1, .int a1), (3, .int a3), (5, .int a5), (6, .int a6), (7, .int a7)]) 3 dX12_answer_78 rfl rfl (by decide) rfl ?_
    refine X_goto (tgt := 147) dX12_answer_81 (by decide) ?_
    refine X_iinc (lv' := [(5, .int (a5 + 1)), (4, .int (a4 + 1)), (0, .ref 123), (1, .int a1), (3, .int a3), (6, .int a6), (7, .int a7)]) 4 dX12_answer_147 rfl rfl (by decide) rfl ?_
    refine X_goto (tgt := 6) dX12_answer_150 (by decide) ?_
    exact X_lv [2, 3, 4, 1, 0] rfl (hb6 _ _ _ _ _ hm)
def mX12_answer_6 (I : Nat → Nat → Int32)  : Nat → (Nat → Nat → Int64) → Int32 → Int32 → Int32 → Int32 → Option (Int64 × (Nat → Nat → Int64))
  | 0, _, _, _, _, _ => none
  | f + 1, L, a1, a3, a4, a5 => (if a3 ≤ a5 then (some ((L 159 0), L)) else (if inb (((300 : Int32) * a1) + a5) 1800 = true then (if inb (((300 : Int32) * a1) + a5) 1800 = true then (if (I 151 (ix (((300 : Int32) * a1) + a5))) = 0 then (mX12_answer_53 I (fun (L : Nat → Nat → Int64) (a1 : Int32) (a3 : Int32) (a4 : Int32) (a5 : Int32) => mX12_answer_6 I f L a1 a3 a4 a5) L a1 a3 a4 a5 (I 151 (ix (((300 : Int32) * a1) + a5))) (I 152 (ix (((300 : Int32) * a1) + a5)))) else (if (I 151 (ix (((300 : Int32) * a1) + a5))) = (1 : Int32) then (mX12_answer_53 I (fun (L : Nat → Nat → Int64) (a1 : Int32) (a3 : Int32) (a4 : Int32) (a5 : Int32) => mX12_answer_6 I f L a1 a3 a4 a5) L a1 a3 a4 a5 (I 151 (ix (((300 : Int32) * a1) + a5))) (I 152 (ix (((300 : Int32) * a1) + a5)))) else (if (I 151 (ix (((300 : Int32) * a1) + a5))) = (9 : Int32) then (if inb (a4 - (1 : Int32)) 300 = true then (if inb (a4 - (1 : Int32)) 300 = true then (mX12_answer_6 I f (xu L 159 (ix (a4 - (1 : Int32))) ((1 : Int64) - (L 159 (ix (a4 - (1 : Int32)))))) a1 a3 a4 (a5 + 1)) else none) else none) else (if inb ((a4 + (-1)) - (1 : Int32)) 300 = true then (if inb (a4 + (-1)) 300 = true then (Option.bind (mX12_both (I 151 (ix (((300 : Int32) * a1) + a5))) (L 159 (ix ((a4 + (-1)) - (1 : Int32)))) (L 159 (ix (a4 + (-1))))) (fun q13 => (if inb ((a4 + (-1)) - (1 : Int32)) 300 = true then (mX12_answer_6 I f (xu L 159 (ix ((a4 + (-1)) - (1 : Int32))) q13) a1 a3 (a4 + (-1)) (a5 + 1)) else none))) else none) else none)))) else none) else none))
set_option maxHeartbeats 400000 in
set_option maxRecDepth 100000 in
theorem kX12_answer_6 {E : xE} {B : Nat} {n : Nat} {K : Nat → Nat × Nat} {P : Nat → Nat → Nat} {I : Nat → Nat → Int32}   {q : Int64 × (Nat → Nat → Int64)} (d : Nat) (hd : 2 ≤ d) (G : GW K P)   : ∀ (f : Nat) (L : Nat → Nat → Int64) (a1 : Int32) (a3 : Int32) (a4 : Int32) (a5 : Int32), mX12_answer_6 I f L a1 a3 a4 a5 = some q → X E B d 0 0 yX12_answer cX12_answer 8 (some .long) (some (.long q.1), (n, K, P, I, q.2)) 6 [(0, .ref 123), (1, .int a1), (3, .int a3), (4, .int a4), (5, .int a5)] [] 0 0 (n, K, P, I, L) := by
  obtain ⟨d, rfl⟩ : ∃ d0, d = d0 + 1 := ⟨d - 1, by omega⟩
  intro f
  induction f with
  | zero => intro _ _ _ _ _ hm; exact nomatch (show (none : Option (Int64 × (Nat → Nat → Int64))) = some q from hm)
  | succ f ih =>
    intro L a1 a3 a4 a5 hm
    rw [mX12_answer_6] at hm
    refine X_iload 4 dX12_answer_6 rfl ?_
    refine X_iload_n 2 dX12_answer_8 rfl rfl ?_
    refine X_icmp_ge (tgt := 153) dX12_answer_9 (by decide) (fun c1 => ?_) (fun c1 => ?_)
    · replace hm := ip c1 hm
      refine X_aload_n 0 dX12_answer_153 rfl rfl rfl ?_
      refine X_getPe fl_X12_121 (g_K123 G) rfl (g_P123_46 G) dX12_answer_154 ?_
      refine X_iconst (v := (0 : Int32)) dX12_answer_157 (by decide) ?_
      refine X_laldJ (j := 0) (g_K159 G) rfl (by decide) dX12_answer_158 ?_
      replace hm := Option.some.inj hm
      subst hm
      exact X_lret dX12_answer_159 rfl
    · replace hm := iq c1 hm
      refine X_aload_n 0 dX12_answer_12 rfl rfl rfl ?_
      refine X_getPe fl_X12_96 (g_K123 G) rfl (g_P123_38 G) dX12_answer_13 ?_
      refine X_sipush (v := (300 : Int32)) dX12_answer_16 (by decide) ?_
      refine X_iload_n 1 dX12_answer_19 rfl rfl ?_
      refine X_imul dX12_answer_20 ?_
      refine X_iload 4 dX12_answer_21 rfl ?_
      refine X_iadd dX12_answer_23 ?_
      obtain ⟨g2, hm⟩ := og hm
      refine X_ialdJ (g_K151 G) g2 rfl dX12_answer_24 ?_
      refine X_istore (lv' := [(6, .int (I 151 (ix (((300 : Int32) * a1) + a5)))), (0, .ref 123), (1, .int a1), (3, .int a3), (4, .int a4), (5, .int a5)]) dX12_answer_25 (by decide) rfl ?_
      refine X_aload_n 1 dX12_answer_27 rfl rfl rfl ?_
      refine X_getPe fl_X12_99 (g_K123 G) rfl (g_P123_39 G) dX12_answer_28 ?_
      refine X_sipush (v := (300 : Int32)) dX12_answer_31 (by decide) ?_
      refine X_iload_n 2 dX12_answer_34 rfl rfl ?_
      refine X_imul dX12_answer_35 ?_
      refine X_iload 5 dX12_answer_36 rfl ?_
      refine X_iadd dX12_answer_38 ?_
      obtain ⟨g3, hm⟩ := og hm
      refine X_ialdJ (g_K152 G) g3 rfl dX12_answer_39 ?_
      refine X_istore (lv' := [(7, .int (I 152 (ix (((300 : Int32) * a1) + a5)))), (6, .int (I 151 (ix (((300 : Int32) * a1) + a5)))), (0, .ref 123), (1, .int a1), (3, .int a3), (4, .int a4), (5, .int a5)]) dX12_answer_40 (by decide) rfl ?_
      refine X_iload 1 dX12_answer_42 rfl ?_
      refine X_if_eq (tgt := 53) dX12_answer_44 (by decide) (fun c4 => ?_) (fun c4 => ?_)
      · replace hm := ip c4 hm
        exact X_lv [2, 3, 4, 5, 6, 1, 0] rfl (kX12_answer_53 _ hd G ih hm)
      · replace hm := iq c4 hm
        refine X_iload 1 dX12_answer_47 rfl ?_
        refine X_iconst (v := (1 : Int32)) dX12_answer_49 (by decide) ?_
        refine X_icmp_ne (tgt := 84) dX12_answer_50 (by decide) (fun c9 => ?_) (fun c9 => ?_)
        · replace hm := iq c9 hm
          refine X_iload 1 dX12_answer_84 rfl ?_
          refine X_bipush (v := (9 : Int32)) dX12_answer_86 (by decide) ?_
          refine X_icmp_ne (tgt := 114) dX12_answer_88 (by decide) (fun c10 => ?_) (fun c10 => ?_)
          · replace hm := iq c10 hm
            refine X_iinc (lv' := [(4, .int (a4 + (-1))), (7, .int (I 152 (ix (((300 : Int32) * a1) + a5)))), (6, .int (I 151 (ix (((300 : Int32) * a1) + a5)))), (0, .ref 123), (1, .int a1), (3, .int a3), (5, .int a5)]) 5 dX12_answer_114 rfl rfl (by decide) rfl ?_
            refine X_aload_n 3 dX12_answer_117 rfl rfl rfl ?_
            refine X_getPe fl_X12_121 (g_K123 G) rfl (g_P123_46 G) dX12_answer_118 ?_
            refine X_iload 0 dX12_answer_121 rfl ?_
            refine X_iconst (v := (1 : Int32)) dX12_answer_123 (by decide) ?_
            refine X_isub dX12_answer_124 ?_
            refine X_iload 2 dX12_answer_125 rfl ?_
            refine X_aload_n 3 dX12_answer_127 rfl rfl rfl ?_
            refine X_getPe fl_X12_121 (g_K123 G) rfl (g_P123_46 G) dX12_answer_128 ?_
            refine X_iload 0 dX12_answer_131 rfl ?_
            refine X_iconst (v := (1 : Int32)) dX12_answer_133 (by decide) ?_
            refine X_isub dX12_answer_134 ?_
            obtain ⟨g11, hm⟩ := og hm
            refine X_laldJ (g_K159 G) g11 rfl dX12_answer_135 ?_
            refine X_aload_n 3 dX12_answer_136 rfl rfl rfl ?_
            refine X_getPe fl_X12_121 (g_K123 G) rfl (g_P123_46 G) dX12_answer_137 ?_
            refine X_iload 0 dX12_answer_140 rfl ?_
            obtain ⟨g12, hm⟩ := og hm
            refine X_laldJ (g_K159 G) g12 rfl dX12_answer_142 ?_
            obtain ⟨q13, e14, hm⟩ := ob hm
            refine X_cS1 (kX12_both d (by omega) G e14) ml_X12_378 ms_X12_both rfl rfl (Nat.le_refl _) ⟨Nat.le_refl _, Nat.le_refl _⟩ (Nat.le_of_ble_eq_true rfl) dX12_answer_143 ?_
            obtain ⟨g15, hm⟩ := og hm
            refine X_lastJ (g_K159 G) g15 rfl dX12_answer_146 ?_
            refine X_iinc (lv' := [(5, .int (a5 + 1)), (4, .int (a4 + (-1))), (7, .int (I 152 (ix (((300 : Int32) * a1) + a5)))), (6, .int (I 151 (ix (((300 : Int32) * a1) + a5)))), (0, .ref 123), (1, .int a1), (3, .int a3)]) 6 dX12_answer_147 rfl rfl (by decide) rfl ?_
            refine X_goto (tgt := 6) dX12_answer_150 (by decide) ?_
            exact X_lv [4, 5, 6, 1, 0] rfl (ih _ _ _ _ _ hm)
          · replace hm := ip c10 hm
            refine X_aload_n 2 dX12_answer_91 rfl rfl rfl ?_
            refine X_getPe fl_X12_121 (g_K123 G) rfl (g_P123_46 G) dX12_answer_92 ?_
            refine X_iload 5 dX12_answer_95 rfl ?_
            refine X_iconst (v := (1 : Int32)) dX12_answer_97 (by decide) ?_
            refine X_isub dX12_answer_98 ?_
            refine X_lconst (v := (1 : Int64)) dX12_answer_99 (by decide) ?_
            refine X_aload_n 2 dX12_answer_100 rfl rfl rfl ?_
            refine X_getPe fl_X12_121 (g_K123 G) rfl (g_P123_46 G) dX12_answer_101 ?_
            refine X_iload 5 dX12_answer_104 rfl ?_
            refine X_iconst (v := (1 : Int32)) dX12_answer_106 (by decide) ?_
            refine X_isub dX12_answer_107 ?_
            obtain ⟨g16, hm⟩ := og hm
            refine X_laldJ (g_K159 G) g16 rfl dX12_answer_108 ?_
            refine X_lsub dX12_answer_109 ?_
            obtain ⟨g17, hm⟩ := og hm
            refine X_lastJ (g_K159 G) g17 rfl dX12_answer_110 ?_
            refine X_goto (tgt := 147) dX12_answer_111 (by decide) ?_
            refine X_iinc (lv' := [(5, .int (a5 + 1)), (7, .int (I 152 (ix (((300 : Int32) * a1) + a5)))), (6, .int (I 151 (ix (((300 : Int32) * a1) + a5)))), (0, .ref 123), (1, .int a1), (3, .int a3), (4, .int a4)]) 6 dX12_answer_147 rfl rfl (by decide) rfl ?_
            refine X_goto (tgt := 6) dX12_answer_150 (by decide) ?_
            exact X_lv [3, 4, 5, 6, 0] rfl (ih _ _ _ _ _ hm)
        · replace hm := ip c9 hm
          exact X_lv [2, 3, 4, 5, 6, 1, 0] rfl (kX12_answer_53 _ hd G ih hm)
def mX12_answer (I : Nat → Nat → Int32) (L : Nat → Nat → Int64) (a1 : Int32) (a2 : Int32) (a3 : Int32) : Option (Int64 × (Nat → Nat → Int64)) := (mX12_answer_6 I xf L a1 a3 (0 : Int32) a2)
set_option maxHeartbeats 400000 in
set_option maxRecDepth 100000 in
theorem kX12_answer {E : xE} {B : Nat} {n : Nat} {K : Nat → Nat × Nat} {P : Nat → Nat → Nat} {I : Nat → Nat → Int32} {L : Nat → Nat → Int64}  {a1 : Int32} {a2 : Int32} {a3 : Int32} {q : Int64 × (Nat → Nat → Int64)} (d : Nat) (hd : 2 ≤ d) (G : GW K P)   (hm : mX12_answer I L a1 a2 a3 = some q) : MX E B d 0 0 yX12_answer cX12_answer 8 (some .long) [.ref 123, .int a1, .int a2, .int a3] (n, K, P, I, L) (some (.long q.1), (n, K, P, I, q.2)) := by
  refine MX_of (lv := [(0, .ref 123), (1, .int a1), (2, .int a2), (3, .int a3)]) (by decide +kernel) (Nat.le_of_ble_eq_true rfl) rfl ?_
  obtain ⟨d, rfl⟩ : ∃ d0, d = d0 + 1 := ⟨d - 1, by omega⟩
  unfold mX12_answer at hm
  refine X_iconst (v := (0 : Int32)) dX12_answer_0 (by decide) ?_
  refine X_istore (lv' := [(4, .int (0 : Int32)), (0, .ref 123), (1, .int a1), (2, .int a2), (3, .int a3)]) dX12_answer_1 (by decide) rfl ?_
  refine X_iload_n 3 dX12_answer_3 rfl rfl ?_
  refine X_istore (lv' := [(5, .int a2), (4, .int (0 : Int32)), (0, .ref 123), (1, .int a1), (2, .int a2), (3, .int a3)]) dX12_answer_4 (by decide) rfl ?_
  refine X_lv [2, 3, 5, 1, 0] rfl (kX12_answer_6 _ hd G xf _ _ _ _ _  hm)
def mX12_wanted_13 (I : Nat → Nat → Int32) (e65 : (Nat → Nat → Int64) → Int32 → Int32 → Option (Int64 × (Nat → Nat → Int64))) : Nat → (Nat → Nat → Int64) → Int32 → Int32 → Option (Int64 × (Nat → Nat → Int64))
  | 0, _, _, _ => none
  | f + 1, L, a1, a2 => (if inb a1 6 = true then (if (((12 : Int32) * a1) + (I 153 (ix a1))) ≤ a2 then (some ((0 : Int64), L)) else (if inb a2 72 = true then (if inb a2 72 = true then (if (I 155 (ix a2)) = (I 156 (ix a2)) then (e65 L a1 a2) else (if inb a2 72 = true then (if inb a2 72 = true then (Option.bind (mX12_answer I L a1 (I 155 (ix a2)) (I 156 (ix a2))) (fun q8 => (if (lg_cmp q8.1 (1 : Int64)) = 0 then (e65 q8.2 a1 a2) else (mX12_wanted_13 I e65 f q8.2 a1 (a2 + 1))))) else none) else none)) else none) else none)) else none)
set_option maxHeartbeats 400000 in
set_option maxRecDepth 100000 in
theorem kX12_wanted_13 {E : xE} {B : Nat} {n : Nat} {K : Nat → Nat × Nat} {P : Nat → Nat → Nat} {I : Nat → Nat → Int32}  {e65 : (Nat → Nat → Int64) → Int32 → Int32 → Option (Int64 × (Nat → Nat → Int64))} {q : Int64 × (Nat → Nat → Int64)} (d : Nat) (hd : 3 ≤ d) (G : GW K P)  (he65 : ∀ (L : Nat → Nat → Int64) (a1 : Int32) (a2 : Int32), e65 L a1 a2 = some q → X E B d 0 0 yX12_wanted cX12_wanted 3 (some .long) (some (.long q.1), (n, K, P, I, q.2)) 65 [(0, .ref 123), (1, .int a1), (2, .int a2)] [] 0 0 (n, K, P, I, L)) : ∀ (f : Nat) (L : Nat → Nat → Int64) (a1 : Int32) (a2 : Int32), mX12_wanted_13 I e65 f L a1 a2 = some q → X E B d 0 0 yX12_wanted cX12_wanted 3 (some .long) (some (.long q.1), (n, K, P, I, q.2)) 13 [(0, .ref 123), (1, .int a1), (2, .int a2)] [] 0 0 (n, K, P, I, L) := by
  obtain ⟨d, rfl⟩ : ∃ d0, d = d0 + 1 := ⟨d - 1, by omega⟩
  intro f
  induction f with
  | zero => intro _ _ _ hm; exact nomatch (show (none : Option (Int64 × (Nat → Nat → Int64))) = some q from hm)
  | succ f ih =>
    intro L a1 a2 hm
    rw [mX12_wanted_13] at hm
    refine X_iload_n 2 dX12_wanted_13 rfl rfl ?_
    refine X_bipush (v := (12 : Int32)) dX12_wanted_14 (by decide) ?_
    refine X_iload_n 1 dX12_wanted_16 rfl rfl ?_
    refine X_imul dX12_wanted_17 ?_
    refine X_aload_n 0 dX12_wanted_18 rfl rfl rfl ?_
    refine X_getPe fl_X12_102 (g_K123 G) rfl (g_P123_40 G) dX12_wanted_19 ?_
    refine X_iload_n 1 dX12_wanted_22 rfl rfl ?_
    obtain ⟨g1, hm⟩ := og hm
    refine X_ialdJ (g_K153 G) g1 rfl dX12_wanted_23 ?_
    refine X_iadd dX12_wanted_24 ?_
    refine X_icmp_ge (tgt := 89) dX12_wanted_25 (by decide) (fun c2 => ?_) (fun c2 => ?_)
    · replace hm := ip c2 hm
      refine X_lconst (v := (0 : Int64)) dX12_wanted_89 (by decide) ?_
      replace hm := Option.some.inj hm
      subst hm
      exact X_lret dX12_wanted_90 rfl
    · replace hm := iq c2 hm
      refine X_aload_n 0 dX12_wanted_28 rfl rfl rfl ?_
      refine X_getPe fl_X12_108 (g_K123 G) rfl (g_P123_42 G) dX12_wanted_29 ?_
      refine X_iload_n 2 dX12_wanted_32 rfl rfl ?_
      obtain ⟨g3, hm⟩ := og hm
      refine X_ialdJ (g_K155 G) g3 rfl dX12_wanted_33 ?_
      refine X_aload_n 0 dX12_wanted_34 rfl rfl rfl ?_
      refine X_getPe fl_X12_111 (g_K123 G) rfl (g_P123_43 G) dX12_wanted_35 ?_
      refine X_iload_n 2 dX12_wanted_38 rfl rfl ?_
      obtain ⟨g4, hm⟩ := og hm
      refine X_ialdJ (g_K156 G) g4 rfl dX12_wanted_39 ?_
      refine X_icmp_eq (tgt := 65) dX12_wanted_40 (by decide) (fun c5 => ?_) (fun c5 => ?_)
      · replace hm := ip c5 hm
        exact he65 _ _ _ hm
      · replace hm := iq c5 hm
        refine X_aload_n 0 dX12_wanted_43 rfl rfl rfl ?_
        refine X_iload_n 1 dX12_wanted_44 rfl rfl ?_
        refine X_aload_n 0 dX12_wanted_45 rfl rfl rfl ?_
        refine X_getPe fl_X12_108 (g_K123 G) rfl (g_P123_42 G) dX12_wanted_46 ?_
        refine X_iload_n 2 dX12_wanted_49 rfl rfl ?_
        obtain ⟨g6, hm⟩ := og hm
        refine X_ialdJ (g_K155 G) g6 rfl dX12_wanted_50 ?_
        refine X_aload_n 0 dX12_wanted_51 rfl rfl rfl ?_
        refine X_getPe fl_X12_111 (g_K123 G) rfl (g_P123_43 G) dX12_wanted_52 ?_
        refine X_iload_n 2 dX12_wanted_55 rfl rfl ?_
        obtain ⟨g7, hm⟩ := og hm
        refine X_ialdJ (g_K156 G) g7 rfl dX12_wanted_56 ?_
        obtain ⟨q8, e9, hm⟩ := ob hm
        refine X_cV1 (ci := 11) (kX12_answer d (by omega) G e9) ml_X12_370 mi_X12_answer rfl cf_11 (g_K123 G) rfl rfl (Nat.le_refl _) ⟨Nat.le_refl _, Nat.le_refl _⟩ (Nat.le_of_ble_eq_true rfl) dX12_wanted_57 ?_
        refine X_lconst (v := (1 : Int64)) dX12_wanted_60 (by decide) ?_
        refine X_lcmp dX12_wanted_61 ?_
        refine X_if_ne (tgt := 83) dX12_wanted_62 (by decide) (fun c10 => ?_) (fun c10 => ?_)
        · replace hm := iq c10 hm
          refine X_iinc (lv' := [(2, .int (a2 + 1)), (0, .ref 123), (1, .int a1)]) 2 dX12_wanted_83 rfl rfl (by decide) rfl ?_
          refine X_goto (tgt := 13) dX12_wanted_86 (by decide) ?_
          exact X_lv [1, 2, 0] rfl (ih _ _ _ hm)
        · replace hm := ip c10 hm
          exact he65 _ _ _ hm
def mX12_wanted_65 (I : Nat → Nat → Int32) (L : Nat → Nat → Int64) (a1 : Int32) (a2 : Int32) : Option (Int64 × (Nat → Nat → Int64)) := (if inb a2 72 = true then (if inb a2 72 = true then (Option.bind (mX12_answer I L a1 (I 154 (ix a2)) (I 155 (ix a2))) (fun q14 => (some (q14.1, q14.2)))) else none) else none)
set_option maxHeartbeats 400000 in
set_option maxRecDepth 100000 in
theorem kX12_wanted_65 {E : xE} {B : Nat} {n : Nat} {K : Nat → Nat × Nat} {P : Nat → Nat → Nat} {I : Nat → Nat → Int32} {L : Nat → Nat → Int64}   {a1 : Int32} {a2 : Int32} {q : Int64 × (Nat → Nat → Int64)} (d : Nat) (hd : 3 ≤ d) (G : GW K P)    (hm : mX12_wanted_65 I L a1 a2 = some q) : X E B d 0 0 yX12_wanted cX12_wanted 3 (some .long) (some (.long q.1), (n, K, P, I, q.2)) 65 [(0, .ref 123), (1, .int a1), (2, .int a2)] [] 0 0 (n, K, P, I, L) := by
  obtain ⟨d, rfl⟩ : ∃ d0, d = d0 + 1 := ⟨d - 1, by omega⟩
  unfold mX12_wanted_65 at hm
  refine X_aload_n 0 dX12_wanted_65 rfl rfl rfl ?_
  refine X_iload_n 1 dX12_wanted_66 rfl rfl ?_
  refine X_aload_n 0 dX12_wanted_67 rfl rfl rfl ?_
  refine X_getPe fl_X12_105 (g_K123 G) rfl (g_P123_41 G) dX12_wanted_68 ?_
  refine X_iload_n 2 dX12_wanted_71 rfl rfl ?_
  obtain ⟨g12, hm⟩ := og hm
  refine X_ialdJ (g_K154 G) g12 rfl dX12_wanted_72 ?_
  refine X_aload_n 0 dX12_wanted_73 rfl rfl rfl ?_
  refine X_getPe fl_X12_108 (g_K123 G) rfl (g_P123_42 G) dX12_wanted_74 ?_
  refine X_iload_n 2 dX12_wanted_77 rfl rfl ?_
  obtain ⟨g13, hm⟩ := og hm
  refine X_ialdJ (g_K155 G) g13 rfl dX12_wanted_78 ?_
  obtain ⟨q14, e15, hm⟩ := ob hm
  refine X_cV1 (ci := 11) (kX12_answer d (by omega) G e15) ml_X12_370 mi_X12_answer rfl cf_11 (g_K123 G) rfl rfl (Nat.le_refl _) ⟨Nat.le_refl _, Nat.le_refl _⟩ (Nat.le_of_ble_eq_true rfl) dX12_wanted_79 ?_
  replace hm := Option.some.inj hm
  subst hm
  exact X_lret dX12_wanted_82 rfl
def mX12_wanted (I : Nat → Nat → Int32) (L : Nat → Nat → Int64) : Option (Int64 × (Nat → Nat → Int64)) := (mX12_wanted_13 I (fun (L_11 : (Nat → Nat → Int64)) (a1_11 : Int32) (a2_11 : Int32) => (mX12_wanted_65 I L_11 a1_11 a2_11)) xf L (I 124 12) ((12 : Int32) * (I 124 12)))
set_option maxHeartbeats 400000 in
set_option maxRecDepth 100000 in
theorem kX12_wanted {E : xE} {B : Nat} {n : Nat} {K : Nat → Nat × Nat} {P : Nat → Nat → Nat} {I : Nat → Nat → Int32} {L : Nat → Nat → Int64}   {q : Int64 × (Nat → Nat → Int64)} (d : Nat) (hd : 3 ≤ d) (G : GW K P)   (hm : mX12_wanted I L = some q) : MX E B d 0 0 yX12_wanted cX12_wanted 3 (some .long) [.ref 123] (n, K, P, I, L) (some (.long q.1), (n, K, P, I, q.2)) := by
  refine MX_of (lv := [(0, .ref 123)]) (by decide +kernel) (Nat.le_of_ble_eq_true rfl) rfl ?_
  obtain ⟨d, rfl⟩ : ∃ d0, d = d0 + 1 := ⟨d - 1, by omega⟩
  unfold mX12_wanted at hm
  refine X_aload_n 0 dX12_wanted_0 rfl rfl rfl ?_
  refine X_getPe fl_X12_9 (g_K123 G) rfl (g_P123_1 G) dX12_wanted_1 ?_
  refine X_bipush (v := (12 : Int32)) dX12_wanted_4 (by decide) ?_
  refine X_ialdJ (j := 12) (g_K124 G) rfl (by decide) dX12_wanted_6 ?_
  refine X_istore_n (lv' := [(1, .int (I 124 12)), (0, .ref 123)]) dX12_wanted_7 rfl (by decide) rfl ?_
  refine X_bipush (v := (12 : Int32)) dX12_wanted_8 (by decide) ?_
  refine X_iload_n 0 dX12_wanted_10 rfl rfl ?_
  refine X_imul dX12_wanted_11 ?_
  refine X_istore_n (lv' := [(2, .int ((12 : Int32) * (I 124 12))), (1, .int (I 124 12)), (0, .ref 123)]) dX12_wanted_12 rfl (by decide) rfl ?_
  refine X_lv [2, 1, 0] rfl (kX12_wanted_13 _ hd G (fun L_11 a1_11 a2_11 hm => ?_) xf _ _ _  hm)
  exact kX12_wanted_65 _ hd G hm
def mX12_thingOf_2 (I : Nat → Nat → Int32)  : Nat → Int32 → Int32 → Option (Int32)
  | 0, _, _ => none
  | f + 1, a1, a2 => (if inb (a2 + (1 : Int32)) 5 = true then (if a1 < (I 125 (ix (a2 + (1 : Int32)))) then (some a2) else (mX12_thingOf_2 I f a1 (a2 + 1))) else none)
set_option maxHeartbeats 400000 in
set_option maxRecDepth 100000 in
theorem kX12_thingOf_2 {E : xE} {B : Nat} {n : Nat} {K : Nat → Nat × Nat} {P : Nat → Nat → Nat} {I : Nat → Nat → Int32} {L : Nat → Nat → Int64}   {q : Int32} (d : Nat) (hd : 0 ≤ d) (G : GW K P)   : ∀ (f : Nat) (a1 : Int32) (a2 : Int32), mX12_thingOf_2 I f a1 a2 = some q → X E B d 0 0 yX12_thingOf cX12_thingOf 3 (some .int) (some (.int q), (n, K, P, I, L)) 2 [(0, .ref 123), (1, .int a1), (2, .int a2)] [] 0 0 (n, K, P, I, L) := by
  intro f
  induction f with
  | zero => intro _ _ hm; exact nomatch (show (none : Option (Int32)) = some q from hm)
  | succ f ih =>
    intro a1 a2 hm
    rw [mX12_thingOf_2] at hm
    refine X_iload_n 1 dX12_thingOf_2 rfl rfl ?_
    refine X_aload_n 0 dX12_thingOf_3 rfl rfl rfl ?_
    refine X_getPe fl_X12_13 (g_K123 G) rfl (g_P123_2 G) dX12_thingOf_4 ?_
    refine X_iload_n 2 dX12_thingOf_7 rfl rfl ?_
    refine X_iconst (v := (1 : Int32)) dX12_thingOf_8 (by decide) ?_
    refine X_iadd dX12_thingOf_9 ?_
    obtain ⟨g1, hm⟩ := og hm
    refine X_ialdJ (g_K125 G) g1 rfl dX12_thingOf_10 ?_
    refine X_icmp_lt (tgt := 20) dX12_thingOf_11 (by decide) (fun c2 => ?_) (fun c2 => ?_)
    · replace hm := ip c2 hm
      refine X_iload_n 2 dX12_thingOf_20 rfl rfl ?_
      replace hm := Option.some.inj hm
      subst hm
      exact X_iret dX12_thingOf_21 rfl
    · replace hm := iq c2 hm
      refine X_iinc (lv' := [(2, .int (a2 + 1)), (0, .ref 123), (1, .int a1)]) 2 dX12_thingOf_14 rfl rfl (by decide) rfl ?_
      refine X_goto (tgt := 2) dX12_thingOf_17 (by decide) ?_
      exact X_lv [1, 2, 0] rfl (ih _ _ hm)
def mX12_thingOf (I : Nat → Nat → Int32) (a1 : Int32) : Option (Int32) := (mX12_thingOf_2 I xf a1 (0 : Int32))
set_option maxHeartbeats 400000 in
set_option maxRecDepth 100000 in
theorem kX12_thingOf {E : xE} {B : Nat} {n : Nat} {K : Nat → Nat × Nat} {P : Nat → Nat → Nat} {I : Nat → Nat → Int32} {L : Nat → Nat → Int64}  {a1 : Int32} {q : Int32} (d : Nat) (hd : 0 ≤ d) (G : GW K P)   (hm : mX12_thingOf I a1 = some q) : MX E B d 0 0 yX12_thingOf cX12_thingOf 3 (some .int) [.ref 123, .int a1] (n, K, P, I, L) (some (.int q), (n, K, P, I, L)) := by
  refine MX_of (lv := [(0, .ref 123), (1, .int a1)]) (by decide +kernel) (Nat.le_of_ble_eq_true rfl) rfl ?_
  unfold mX12_thingOf at hm
  refine X_iconst (v := (0 : Int32)) dX12_thingOf_0 (by decide) ?_
  refine X_istore_n (lv' := [(2, .int (0 : Int32)), (0, .ref 123), (1, .int a1)]) dX12_thingOf_1 rfl (by decide) rfl ?_
  refine X_lv [1, 2, 0] rfl (kX12_thingOf_2 _ hd G xf _ _  hm)
def mX12_isWetAt (I : Nat → Nat → Int32) (a1 : Int32) (a2 : Int32) : Option (Int32) := (if inb a1 80 = true then (if (I 133 (ix a1)) = (-1 : Int32) then (some (0 : Int32)) else (if inb a1 80 = true then (if ((I 133 (ix a1)) + (I 124 0)) ≤ a2 then (some (0 : Int32)) else (some (1 : Int32))) else none)) else none)
set_option maxHeartbeats 400000 in
set_option maxRecDepth 100000 in
theorem kX12_isWetAt {E : xE} {B : Nat} {n : Nat} {K : Nat → Nat × Nat} {P : Nat → Nat → Nat} {I : Nat → Nat → Int32} {L : Nat → Nat → Int64}  {a1 : Int32} {a2 : Int32} {q : Int32} (d : Nat) (hd : 0 ≤ d) (G : GW K P)   (hm : mX12_isWetAt I a1 a2 = some q) : MX E B d 0 0 yX12_isWetAt cX12_isWetAt 3 (some .boolean) [.ref 123, .int a1, .int a2] (n, K, P, I, L) (some (.int q), (n, K, P, I, L)) := by
  refine MX_of (lv := [(0, .ref 123), (1, .int a1), (2, .int a2)]) (by decide +kernel) (Nat.le_of_ble_eq_true rfl) rfl ?_
  unfold mX12_isWetAt at hm
  refine X_aload_n 0 dX12_isWetAt_0 rfl rfl rfl ?_
  refine X_getPe fl_X12_37 (g_K123 G) rfl (g_P123_10 G) dX12_isWetAt_1 ?_
  refine X_iload_n 1 dX12_isWetAt_4 rfl rfl ?_
  obtain ⟨g1, hm⟩ := og hm
  refine X_ialdJ (g_K133 G) g1 rfl dX12_isWetAt_5 ?_
  refine X_iconst (v := (-1 : Int32)) dX12_isWetAt_6 (by decide) ?_
  refine X_icmp_eq (tgt := 31) dX12_isWetAt_7 (by decide) (fun c2 => ?_) (fun c2 => ?_)
  · replace hm := ip c2 hm
    refine X_iconst (v := (0 : Int32)) dX12_isWetAt_31 (by decide) ?_
    replace hm := Option.some.inj hm
    subst hm
    exact X_zret (v := (0 : Int32)) dX12_isWetAt_32 rfl (x_nz (Or.inl rfl))
  · replace hm := iq c2 hm
    refine X_iload_n 2 dX12_isWetAt_10 rfl rfl ?_
    refine X_aload_n 0 dX12_isWetAt_11 rfl rfl rfl ?_
    refine X_getPe fl_X12_37 (g_K123 G) rfl (g_P123_10 G) dX12_isWetAt_12 ?_
    refine X_iload_n 1 dX12_isWetAt_15 rfl rfl ?_
    obtain ⟨g3, hm⟩ := og hm
    refine X_ialdJ (g_K133 G) g3 rfl dX12_isWetAt_16 ?_
    refine X_aload_n 0 dX12_isWetAt_17 rfl rfl rfl ?_
    refine X_getPe fl_X12_9 (g_K123 G) rfl (g_P123_1 G) dX12_isWetAt_18 ?_
    refine X_iconst (v := (0 : Int32)) dX12_isWetAt_21 (by decide) ?_
    refine X_ialdJ (j := 0) (g_K124 G) rfl (by decide) dX12_isWetAt_22 ?_
    refine X_iadd dX12_isWetAt_23 ?_
    refine X_icmp_ge (tgt := 31) dX12_isWetAt_24 (by decide) (fun c4 => ?_) (fun c4 => ?_)
    · replace hm := ip c4 hm
      refine X_iconst (v := (0 : Int32)) dX12_isWetAt_31 (by decide) ?_
      replace hm := Option.some.inj hm
      subst hm
      exact X_zret (v := (0 : Int32)) dX12_isWetAt_32 rfl (x_nz (Or.inl rfl))
    · replace hm := iq c4 hm
      refine X_iconst (v := (1 : Int32)) dX12_isWetAt_27 (by decide) ?_
      refine X_goto (tgt := 32) dX12_isWetAt_28 (by decide) ?_
      replace hm := Option.some.inj hm
      subst hm
      exact X_zret (v := (1 : Int32)) dX12_isWetAt_32 rfl (x_nz (Or.inr rfl))
def mX12_isTopWet (I : Nat → Nat → Int32) (a1 : Int32) : Option (Int32) := (if inb a1 16 = true then (if (I 131 (ix a1)) ≤ 0 then (some (0 : Int32)) else (if inb a1 16 = true then (Option.bind (mX12_isWetAt I ((((5 : Int32) * a1) + (I 131 (ix a1))) - (1 : Int32)) (I 124 9)) (fun q4 => (if q4 = 0 then (some (0 : Int32)) else (some (1 : Int32))))) else none)) else none)
set_option maxHeartbeats 400000 in
set_option maxRecDepth 100000 in
theorem kX12_isTopWet {E : xE} {B : Nat} {n : Nat} {K : Nat → Nat × Nat} {P : Nat → Nat → Nat} {I : Nat → Nat → Int32} {L : Nat → Nat → Int64}  {a1 : Int32} {q : Int32} (d : Nat) (hd : 1 ≤ d) (G : GW K P)   (hm : mX12_isTopWet I a1 = some q) : MX E B d 0 0 yX12_isTopWet cX12_isTopWet 2 (some .boolean) [.ref 123, .int a1] (n, K, P, I, L) (some (.int q), (n, K, P, I, L)) := by
  refine MX_of (lv := [(0, .ref 123), (1, .int a1)]) (by decide +kernel) (Nat.le_of_ble_eq_true rfl) rfl ?_
  obtain ⟨d, rfl⟩ : ∃ d0, d = d0 + 1 := ⟨d - 1, by omega⟩
  unfold mX12_isTopWet at hm
  refine X_aload_n 0 dX12_isTopWet_0 rfl rfl rfl ?_
  refine X_getPe fl_X12_31 (g_K123 G) rfl (g_P123_8 G) dX12_isTopWet_1 ?_
  refine X_iload_n 1 dX12_isTopWet_4 rfl rfl ?_
  obtain ⟨g1, hm⟩ := og hm
  refine X_ialdJ (g_K131 G) g1 rfl dX12_isTopWet_5 ?_
  refine X_if_le (tgt := 39) dX12_isTopWet_6 (by decide) (fun c2 => ?_) (fun c2 => ?_)
  · replace hm := ip c2 hm
    refine X_iconst (v := (0 : Int32)) dX12_isTopWet_39 (by decide) ?_
    replace hm := Option.some.inj hm
    subst hm
    exact X_zret (v := (0 : Int32)) dX12_isTopWet_40 rfl (x_nz (Or.inl rfl))
  · replace hm := iq c2 hm
    refine X_aload_n 0 dX12_isTopWet_9 rfl rfl rfl ?_
    refine X_iconst (v := (5 : Int32)) dX12_isTopWet_10 (by decide) ?_
    refine X_iload_n 1 dX12_isTopWet_11 rfl rfl ?_
    refine X_imul dX12_isTopWet_12 ?_
    refine X_aload_n 0 dX12_isTopWet_13 rfl rfl rfl ?_
    refine X_getPe fl_X12_31 (g_K123 G) rfl (g_P123_8 G) dX12_isTopWet_14 ?_
    refine X_iload_n 1 dX12_isTopWet_17 rfl rfl ?_
    obtain ⟨g3, hm⟩ := og hm
    refine X_ialdJ (g_K131 G) g3 rfl dX12_isTopWet_18 ?_
    refine X_iadd dX12_isTopWet_19 ?_
    refine X_iconst (v := (1 : Int32)) dX12_isTopWet_20 (by decide) ?_
    refine X_isub dX12_isTopWet_21 ?_
    refine X_aload_n 0 dX12_isTopWet_22 rfl rfl rfl ?_
    refine X_getPe fl_X12_9 (g_K123 G) rfl (g_P123_1 G) dX12_isTopWet_23 ?_
    refine X_bipush (v := (9 : Int32)) dX12_isTopWet_26 (by decide) ?_
    refine X_ialdJ (j := 9) (g_K124 G) rfl (by decide) dX12_isTopWet_28 ?_
    obtain ⟨q4, e5, hm⟩ := ob hm
    refine X_cV1 (ci := 11) (kX12_isWetAt d (by omega) G e5) ml_X12_385 mi_X12_isWetAt rfl cf_11 (g_K123 G) rfl rfl (Nat.le_refl _) ⟨Nat.le_refl _, Nat.le_refl _⟩ (Nat.le_of_ble_eq_true rfl) dX12_isTopWet_29 ?_
    refine X_if_eq (tgt := 39) dX12_isTopWet_32 (by decide) (fun c6 => ?_) (fun c6 => ?_)
    · replace hm := ip c6 hm
      refine X_iconst (v := (0 : Int32)) dX12_isTopWet_39 (by decide) ?_
      replace hm := Option.some.inj hm
      subst hm
      exact X_zret (v := (0 : Int32)) dX12_isTopWet_40 rfl (x_nz (Or.inl rfl))
    · replace hm := iq c6 hm
      refine X_iconst (v := (1 : Int32)) dX12_isTopWet_35 (by decide) ?_
      refine X_goto (tgt := 40) dX12_isTopWet_36 (by decide) ?_
      replace hm := Option.some.inj hm
      subst hm
      exact X_zret (v := (1 : Int32)) dX12_isTopWet_40 rfl (x_nz (Or.inr rfl))
def mX12_topOf (I : Nat → Nat → Int32) (a1 : Int32) : Option (Int32) := (if inb a1 16 = true then (if (I 131 (ix a1)) = 0 then (some (-1 : Int32)) else (if inb a1 16 = true then (if inb ((((5 : Int32) * a1) + (I 131 (ix a1))) - (1 : Int32)) 80 = true then (some (I 132 (ix ((((5 : Int32) * a1) + (I 131 (ix a1))) - (1 : Int32))))) else none) else none)) else none)
set_option maxHeartbeats 400000 in
set_option maxRecDepth 100000 in
theorem kX12_topOf {E : xE} {B : Nat} {n : Nat} {K : Nat → Nat × Nat} {P : Nat → Nat → Nat} {I : Nat → Nat → Int32} {L : Nat → Nat → Int64}  {a1 : Int32} {q : Int32} (d : Nat) (hd : 0 ≤ d) (G : GW K P)   (hm : mX12_topOf I a1 = some q) : MX E B d 0 0 yX12_topOf cX12_topOf 2 (some .int) [.ref 123, .int a1] (n, K, P, I, L) (some (.int q), (n, K, P, I, L)) := by
  refine MX_of (lv := [(0, .ref 123), (1, .int a1)]) (by decide +kernel) (Nat.le_of_ble_eq_true rfl) rfl ?_
  unfold mX12_topOf at hm
  refine X_aload_n 0 dX12_topOf_0 rfl rfl rfl ?_
  refine X_getPe fl_X12_31 (g_K123 G) rfl (g_P123_8 G) dX12_topOf_1 ?_
  refine X_iload_n 1 dX12_topOf_4 rfl rfl ?_
  obtain ⟨g1, hm⟩ := og hm
  refine X_ialdJ (g_K131 G) g1 rfl dX12_topOf_5 ?_
  refine X_if_ne (tgt := 13) dX12_topOf_6 (by decide) (fun c2 => ?_) (fun c2 => ?_)
  · replace hm := iq c2 hm
    refine X_aload_n 0 dX12_topOf_13 rfl rfl rfl ?_
    refine X_getPe fl_X12_34 (g_K123 G) rfl (g_P123_9 G) dX12_topOf_14 ?_
    refine X_iconst (v := (5 : Int32)) dX12_topOf_17 (by decide) ?_
    refine X_iload_n 1 dX12_topOf_18 rfl rfl ?_
    refine X_imul dX12_topOf_19 ?_
    refine X_aload_n 0 dX12_topOf_20 rfl rfl rfl ?_
    refine X_getPe fl_X12_31 (g_K123 G) rfl (g_P123_8 G) dX12_topOf_21 ?_
    refine X_iload_n 1 dX12_topOf_24 rfl rfl ?_
    obtain ⟨g3, hm⟩ := og hm
    refine X_ialdJ (g_K131 G) g3 rfl dX12_topOf_25 ?_
    refine X_iadd dX12_topOf_26 ?_
    refine X_iconst (v := (1 : Int32)) dX12_topOf_27 (by decide) ?_
    refine X_isub dX12_topOf_28 ?_
    obtain ⟨g4, hm⟩ := og hm
    refine X_ialdJ (g_K132 G) g4 rfl dX12_topOf_29 ?_
    replace hm := Option.some.inj hm
    subst hm
    exact X_iret dX12_topOf_30 rfl
  · replace hm := ip c2 hm
    refine X_iconst (v := (-1 : Int32)) dX12_topOf_9 (by decide) ?_
    refine X_goto (tgt := 30) dX12_topOf_10 (by decide) ?_
    replace hm := Option.some.inj hm
    subst hm
    exact X_iret dX12_topOf_30 rfl
def mX12_ownerBy_9 (I : Nat → Nat → Int32)  : Nat → Int32 → Int32 → Int32 → Option (Int32)
  | 0, _, _, _ => none
  | f + 1, a1, a3, a4 => (if a4 < ((5 : Int32) * a1) then (some (-1 : Int32)) else (Option.bind (mX12_isWetAt I a4 a3) (fun q2 => (if q2 = 0 then (if inb a4 80 = true then (some (I 132 (ix a4))) else none) else (if (I 124 6) = (1 : Int32) then (some (-1 : Int32)) else (mX12_ownerBy_9 I f a1 a3 (a4 + (-1))))))))
set_option maxHeartbeats 400000 in
set_option maxRecDepth 100000 in
theorem kX12_ownerBy_9 {E : xE} {B : Nat} {n : Nat} {K : Nat → Nat × Nat} {P : Nat → Nat → Nat} {I : Nat → Nat → Int32} {L : Nat → Nat → Int64}   {q : Int32} (d : Nat) (hd : 1 ≤ d) (G : GW K P)   : ∀ (f : Nat) (a1 : Int32) (a3 : Int32) (a4 : Int32), mX12_ownerBy_9 I f a1 a3 a4 = some q → X E B d 0 0 yX12_ownerBy cX12_ownerBy 5 (some .int) (some (.int q), (n, K, P, I, L)) 9 [(0, .ref 123), (1, .int a1), (3, .int a3), (4, .int a4)] [] 0 0 (n, K, P, I, L) := by
  obtain ⟨d, rfl⟩ : ∃ d0, d = d0 + 1 := ⟨d - 1, by omega⟩
  intro f
  induction f with
  | zero => intro _ _ _ hm; exact nomatch (show (none : Option (Int32)) = some q from hm)
  | succ f ih =>
    intro a1 a3 a4 hm
    rw [mX12_ownerBy_9] at hm
    refine X_iload 3 dX12_ownerBy_9 rfl ?_
    refine X_iconst (v := (5 : Int32)) dX12_ownerBy_11 (by decide) ?_
    refine X_iload_n 1 dX12_ownerBy_12 rfl rfl ?_
    refine X_imul dX12_ownerBy_13 ?_
    refine X_icmp_lt (tgt := 54) dX12_ownerBy_14 (by decide) (fun c1 => ?_) (fun c1 => ?_)
    · replace hm := ip c1 hm
      refine X_iconst (v := (-1 : Int32)) dX12_ownerBy_54 (by decide) ?_
      replace hm := Option.some.inj hm
      subst hm
      exact X_iret dX12_ownerBy_55 rfl
    · replace hm := iq c1 hm
      refine X_aload_n 0 dX12_ownerBy_17 rfl rfl rfl ?_
      refine X_iload 3 dX12_ownerBy_18 rfl ?_
      refine X_iload_n 2 dX12_ownerBy_20 rfl rfl ?_
      obtain ⟨q2, e3, hm⟩ := ob hm
      refine X_cV1 (ci := 11) (kX12_isWetAt d (by omega) G e3) ml_X12_385 mi_X12_isWetAt rfl cf_11 (g_K123 G) rfl rfl (Nat.le_refl _) ⟨Nat.le_refl _, Nat.le_refl _⟩ (Nat.le_of_ble_eq_true rfl) dX12_ownerBy_21 ?_
      refine X_if_ne (tgt := 35) dX12_ownerBy_24 (by decide) (fun c4 => ?_) (fun c4 => ?_)
      · replace hm := iq c4 hm
        refine X_aload_n 0 dX12_ownerBy_35 rfl rfl rfl ?_
        refine X_getPe fl_X12_9 (g_K123 G) rfl (g_P123_1 G) dX12_ownerBy_36 ?_
        refine X_bipush (v := (6 : Int32)) dX12_ownerBy_39 (by decide) ?_
        refine X_ialdJ (j := 6) (g_K124 G) rfl (by decide) dX12_ownerBy_41 ?_
        refine X_iconst (v := (1 : Int32)) dX12_ownerBy_42 (by decide) ?_
        refine X_icmp_ne (tgt := 48) dX12_ownerBy_43 (by decide) (fun c5 => ?_) (fun c5 => ?_)
        · replace hm := iq c5 hm
          refine X_iinc (lv' := [(4, .int (a4 + (-1))), (0, .ref 123), (1, .int a1), (3, .int a3)]) 3 dX12_ownerBy_48 rfl rfl (by decide) rfl ?_
          refine X_goto (tgt := 9) dX12_ownerBy_51 (by decide) ?_
          exact X_lv [1, 2, 3, 0] rfl (ih _ _ _ hm)
        · replace hm := ip c5 hm
          refine X_iconst (v := (-1 : Int32)) dX12_ownerBy_46 (by decide) ?_
          replace hm := Option.some.inj hm
          subst hm
          exact X_iret dX12_ownerBy_47 rfl
      · replace hm := ip c4 hm
        refine X_aload_n 0 dX12_ownerBy_27 rfl rfl rfl ?_
        refine X_getPe fl_X12_34 (g_K123 G) rfl (g_P123_9 G) dX12_ownerBy_28 ?_
        refine X_iload 3 dX12_ownerBy_31 rfl ?_
        obtain ⟨g6, hm⟩ := og hm
        refine X_ialdJ (g_K132 G) g6 rfl dX12_ownerBy_33 ?_
        replace hm := Option.some.inj hm
        subst hm
        exact X_iret dX12_ownerBy_34 rfl
def mX12_ownerBy (I : Nat → Nat → Int32) (a1 : Int32) (a2 : Int32) (a3 : Int32) : Option (Int32) := (mX12_ownerBy_9 I xf a1 a3 ((((5 : Int32) * a1) + a2) - (1 : Int32)))
set_option maxHeartbeats 400000 in
set_option maxRecDepth 100000 in
theorem kX12_ownerBy {E : xE} {B : Nat} {n : Nat} {K : Nat → Nat × Nat} {P : Nat → Nat → Nat} {I : Nat → Nat → Int32} {L : Nat → Nat → Int64}  {a1 : Int32} {a2 : Int32} {a3 : Int32} {q : Int32} (d : Nat) (hd : 1 ≤ d) (G : GW K P)   (hm : mX12_ownerBy I a1 a2 a3 = some q) : MX E B d 0 0 yX12_ownerBy cX12_ownerBy 5 (some .int) [.ref 123, .int a1, .int a2, .int a3] (n, K, P, I, L) (some (.int q), (n, K, P, I, L)) := by
  refine MX_of (lv := [(0, .ref 123), (1, .int a1), (2, .int a2), (3, .int a3)]) (by decide +kernel) (Nat.le_of_ble_eq_true rfl) rfl ?_
  obtain ⟨d, rfl⟩ : ∃ d0, d = d0 + 1 := ⟨d - 1, by omega⟩
  unfold mX12_ownerBy at hm
  refine X_iconst (v := (5 : Int32)) dX12_ownerBy_0 (by decide) ?_
  refine X_iload_n 1 dX12_ownerBy_1 rfl rfl ?_
  refine X_imul dX12_ownerBy_2 ?_
  refine X_iload_n 2 dX12_ownerBy_3 rfl rfl ?_
  refine X_iadd dX12_ownerBy_4 ?_
  refine X_iconst (v := (1 : Int32)) dX12_ownerBy_5 (by decide) ?_
  refine X_isub dX12_ownerBy_6 ?_
  refine X_istore (lv' := [(4, .int ((((5 : Int32) * a1) + a2) - (1 : Int32))), (0, .ref 123), (1, .int a1), (2, .int a2), (3, .int a3)]) dX12_ownerBy_7 (by decide) rfl ?_
  refine X_lv [1, 2, 4, 0] rfl (kX12_ownerBy_9 _ hd G xf _ _ _  hm)
def mX12_ownerOf (I : Nat → Nat → Int32) (a1 : Int32) : Option (Int32) := (if inb a1 16 = true then (Option.bind (mX12_ownerBy I a1 (I 131 (ix a1)) (I 124 9)) (fun q2 => (some q2))) else none)
set_option maxHeartbeats 400000 in
set_option maxRecDepth 100000 in
theorem kX12_ownerOf {E : xE} {B : Nat} {n : Nat} {K : Nat → Nat × Nat} {P : Nat → Nat → Nat} {I : Nat → Nat → Int32} {L : Nat → Nat → Int64}  {a1 : Int32} {q : Int32} (d : Nat) (hd : 2 ≤ d) (G : GW K P)   (hm : mX12_ownerOf I a1 = some q) : MX E B d 0 0 yX12_ownerOf cX12_ownerOf 2 (some .int) [.ref 123, .int a1] (n, K, P, I, L) (some (.int q), (n, K, P, I, L)) := by
  refine MX_of (lv := [(0, .ref 123), (1, .int a1)]) (by decide +kernel) (Nat.le_of_ble_eq_true rfl) rfl ?_
  obtain ⟨d, rfl⟩ : ∃ d0, d = d0 + 1 := ⟨d - 1, by omega⟩
  unfold mX12_ownerOf at hm
  refine X_aload_n 0 dX12_ownerOf_0 rfl rfl rfl ?_
  refine X_iload_n 1 dX12_ownerOf_1 rfl rfl ?_
  refine X_aload_n 0 dX12_ownerOf_2 rfl rfl rfl ?_
  refine X_getPe fl_X12_31 (g_K123 G) rfl (g_P123_8 G) dX12_ownerOf_3 ?_
  refine X_iload_n 1 dX12_ownerOf_6 rfl rfl ?_
  obtain ⟨g1, hm⟩ := og hm
  refine X_ialdJ (g_K131 G) g1 rfl dX12_ownerOf_7 ?_
  refine X_aload_n 0 dX12_ownerOf_8 rfl rfl rfl ?_
  refine X_getPe fl_X12_9 (g_K123 G) rfl (g_P123_1 G) dX12_ownerOf_9 ?_
  refine X_bipush (v := (9 : Int32)) dX12_ownerOf_12 (by decide) ?_
  refine X_ialdJ (j := 9) (g_K124 G) rfl (by decide) dX12_ownerOf_14 ?_
  obtain ⟨q2, e3, hm⟩ := ob hm
  refine X_cV1 (ci := 11) (kX12_ownerBy d (by omega) G e3) ml_X12_388 mi_X12_ownerBy rfl cf_11 (g_K123 G) rfl rfl (Nat.le_refl _) ⟨Nat.le_refl _, Nat.le_refl _⟩ (Nat.le_of_ble_eq_true rfl) dX12_ownerOf_15 ?_
  replace hm := Option.some.inj hm
  subst hm
  exact X_iret dX12_ownerOf_18 rfl
def mX12_ownerByCells_49 (I : Nat → Nat → Int32) (b8 : Int32 → Int32 → Int32 → Int32 → Int32 → Option (Int32)) (e65 : Int32 → Int32 → Int32 → Int32 → Option (Int32)) (a1 : Int32) (a2 : Int32) (a5 : Int32) (t0 : Int32) : Option (Int32) := (if inb a5 4 = true then (b8 a1 a2 t0 (I 160 (ix a5)) (a5 + 1)) else none)
set_option maxHeartbeats 400000 in
set_option maxRecDepth 100000 in
theorem kX12_ownerByCells_49 {E : xE} {B : Nat} {n : Nat} {K : Nat → Nat × Nat} {P : Nat → Nat → Nat} {I : Nat → Nat → Int32} {L : Nat → Nat → Int64}  {b8 : Int32 → Int32 → Int32 → Int32 → Int32 → Option (Int32)} {e65 : Int32 → Int32 → Int32 → Int32 → Option (Int32)} {a1 : Int32} {a2 : Int32} {a5 : Int32} {t0 : Int32} {q : Int32} (d : Nat) (hd : 0 ≤ d) (G : GW K P)  (hb8 : ∀ (a1 : Int32) (a2 : Int32) (a3 : Int32) (a4 : Int32) (a5 : Int32), b8 a1 a2 a3 a4 a5 = some q → X E B d 0 0 yX12_ownerByCells cX12_ownerByCells 6 (some .int) (some (.int q), (n, K, P, I, L)) 8 [(0, .ref 123), (1, .int a1), (2, .int a2), (3, .int a3), (4, .int a4), (5, .int a5)] [] 0 0 (n, K, P, I, L)) (he65 : ∀ (a1 : Int32) (a2 : Int32) (a3 : Int32) (a4 : Int32), e65 a1 a2 a3 a4 = some q → X E B d 0 0 yX12_ownerByCells cX12_ownerByCells 6 (some .int) (some (.int q), (n, K, P, I, L)) 65 [(1, .int a1), (2, .int a2), (3, .int a3), (4, .int a4)] [] 0 0 (n, K, P, I, L))  (hm : mX12_ownerByCells_49 I b8 e65 a1 a2 a5 t0 = some q) : X E B d 0 0 yX12_ownerByCells cX12_ownerByCells 6 (some .int) (some (.int q), (n, K, P, I, L)) 49 [(0, .ref 123), (1, .int a1), (2, .int a2), (5, .int a5)] [.int t0] 0 0 (n, K, P, I, L) := by
  unfold mX12_ownerByCells_49 at hm
  refine X_istore_n (lv' := [(3, .int t0), (0, .ref 123), (1, .int a1), (2, .int a2), (5, .int a5)]) dX12_ownerByCells_49 rfl (by decide) rfl ?_
  refine X_aload_n 1 dX12_ownerByCells_50 rfl rfl rfl ?_
  refine X_getPe fl_X12_124 (g_K123 G) rfl (g_P123_47 G) dX12_ownerByCells_51 ?_
  refine X_iload 4 dX12_ownerByCells_54 rfl ?_
  obtain ⟨g6, hm⟩ := og hm
  refine X_ialdJ (g_K160 G) g6 rfl dX12_ownerByCells_56 ?_
  refine X_istore (lv' := [(4, .int (I 160 (ix a5))), (3, .int t0), (0, .ref 123), (1, .int a1), (2, .int a2), (5, .int a5)]) dX12_ownerByCells_57 (by decide) rfl ?_
  refine X_iinc (lv' := [(5, .int (a5 + 1)), (4, .int (I 160 (ix a5))), (3, .int t0), (0, .ref 123), (1, .int a1), (2, .int a2)]) 5 dX12_ownerByCells_59 rfl rfl (by decide) rfl ?_
  refine X_goto (tgt := 8) dX12_ownerByCells_62 (by decide) ?_
  exact X_lv [3, 4, 5, 2, 1, 0] rfl (hb8 _ _ _ _ _ hm)
def mX12_ownerByCells_8 (I : Nat → Nat → Int32) (e65 : Int32 → Int32 → Int32 → Int32 → Option (Int32)) : Nat → Int32 → Int32 → Int32 → Int32 → Int32 → Option (Int32)
  | 0, _, _, _, _, _ => none
  | f + 1, a1, a2, a3, a4, a5 => (if (I 124 5) ≤ a5 then (e65 a1 a2 a3 a4) else (if inb a5 4 = true then (if (I 160 (ix a5)) < a4 then (mX12_ownerByCells_8 I e65 f a1 a2 a3 a4 (a5 + 1)) else (if inb a5 4 = true then (if (I 160 (ix a5)) ≤ a4 then (mX12_ownerByCells_49 I (fun (a1 : Int32) (a2 : Int32) (a3 : Int32) (a4 : Int32) (a5 : Int32) => mX12_ownerByCells_8 I e65 f a1 a2 a3 a4 a5) e65 a1 a2 a5 (-1 : Int32)) else (mX12_ownerByCells_49 I (fun (a1 : Int32) (a2 : Int32) (a3 : Int32) (a4 : Int32) (a5 : Int32) => mX12_ownerByCells_8 I e65 f a1 a2 a3 a4 a5) e65 a1 a2 a5 a5)) else none)) else none))
set_option maxHeartbeats 400000 in
set_option maxRecDepth 100000 in
theorem kX12_ownerByCells_8 {E : xE} {B : Nat} {n : Nat} {K : Nat → Nat × Nat} {P : Nat → Nat → Nat} {I : Nat → Nat → Int32} {L : Nat → Nat → Int64}  {e65 : Int32 → Int32 → Int32 → Int32 → Option (Int32)} {q : Int32} (d : Nat) (hd : 0 ≤ d) (G : GW K P)  (he65 : ∀ (a1 : Int32) (a2 : Int32) (a3 : Int32) (a4 : Int32), e65 a1 a2 a3 a4 = some q → X E B d 0 0 yX12_ownerByCells cX12_ownerByCells 6 (some .int) (some (.int q), (n, K, P, I, L)) 65 [(1, .int a1), (2, .int a2), (3, .int a3), (4, .int a4)] [] 0 0 (n, K, P, I, L)) : ∀ (f : Nat) (a1 : Int32) (a2 : Int32) (a3 : Int32) (a4 : Int32) (a5 : Int32), mX12_ownerByCells_8 I e65 f a1 a2 a3 a4 a5 = some q → X E B d 0 0 yX12_ownerByCells cX12_ownerByCells 6 (some .int) (some (.int q), (n, K, P, I, L)) 8 [(0, .ref 123), (1, .int a1), (2, .int a2), (3, .int a3), (4, .int a4), (5, .int a5)] [] 0 0 (n, K, P, I, L) := by
  intro f
  induction f with
  | zero => intro _ _ _ _ _ hm; exact nomatch (show (none : Option (Int32)) = some q from hm)
  | succ f ih =>
    intro a1 a2 a3 a4 a5 hm
    rw [mX12_ownerByCells_8] at hm
    refine X_iload 5 dX12_ownerByCells_8 rfl ?_
    refine X_aload_n 0 dX12_ownerByCells_10 rfl rfl rfl ?_
    refine X_getPe fl_X12_9 (g_K123 G) rfl (g_P123_1 G) dX12_ownerByCells_11 ?_
    refine X_iconst (v := (5 : Int32)) dX12_ownerByCells_14 (by decide) ?_
    refine X_ialdJ (j := 5) (g_K124 G) rfl (by decide) dX12_ownerByCells_15 ?_
    refine X_icmp_ge (tgt := 65) dX12_ownerByCells_16 (by decide) (fun c1 => ?_) (fun c1 => ?_)
    · replace hm := ip c1 hm
      exact X_lv [1, 2, 3, 4] rfl (he65 _ _ _ _ hm)
    · replace hm := iq c1 hm
      refine X_aload_n 0 dX12_ownerByCells_19 rfl rfl rfl ?_
      refine X_getPe fl_X12_124 (g_K123 G) rfl (g_P123_47 G) dX12_ownerByCells_20 ?_
      refine X_iload 5 dX12_ownerByCells_23 rfl ?_
      obtain ⟨g2, hm⟩ := og hm
      refine X_ialdJ (g_K160 G) g2 rfl dX12_ownerByCells_25 ?_
      refine X_iload 4 dX12_ownerByCells_26 rfl ?_
      refine X_icmp_lt (tgt := 59) dX12_ownerByCells_28 (by decide) (fun c3 => ?_) (fun c3 => ?_)
      · replace hm := ip c3 hm
        refine X_iinc (lv' := [(5, .int (a5 + 1)), (0, .ref 123), (1, .int a1), (2, .int a2), (3, .int a3), (4, .int a4)]) 5 dX12_ownerByCells_59 rfl rfl (by decide) rfl ?_
        refine X_goto (tgt := 8) dX12_ownerByCells_62 (by decide) ?_
        exact X_lv [1, 2, 3, 4, 5, 0] rfl (ih _ _ _ _ _ hm)
      · replace hm := iq c3 hm
        refine X_aload_n 0 dX12_ownerByCells_31 rfl rfl rfl ?_
        refine X_getPe fl_X12_124 (g_K123 G) rfl (g_P123_47 G) dX12_ownerByCells_32 ?_
        refine X_iload 5 dX12_ownerByCells_35 rfl ?_
        obtain ⟨g4, hm⟩ := og hm
        refine X_ialdJ (g_K160 G) g4 rfl dX12_ownerByCells_37 ?_
        refine X_iload 4 dX12_ownerByCells_38 rfl ?_
        refine X_icmp_le (tgt := 48) dX12_ownerByCells_40 (by decide) (fun c5 => ?_) (fun c5 => ?_)
        · replace hm := ip c5 hm
          refine X_iconst (v := (-1 : Int32)) dX12_ownerByCells_48 (by decide) ?_
          exact X_lv [0, 1, 2, 5] rfl (kX12_ownerByCells_49 _ hd G ih he65 hm)
        · replace hm := iq c5 hm
          refine X_iload 5 dX12_ownerByCells_43 rfl ?_
          refine X_goto (tgt := 49) dX12_ownerByCells_45 (by decide) ?_
          exact X_lv [0, 1, 2, 5] rfl (kX12_ownerByCells_49 _ hd G ih he65 hm)
def mX12_ownerByCells (I : Nat → Nat → Int32) (a1 : Int32) (a2 : Int32) : Option (Int32) := (mX12_ownerByCells_8 I (fun (a1_7 : Int32) (a2_7 : Int32) (a3_7 : Int32) (a4_7 : Int32) => (if a3_7 = (-1 : Int32) then (some (-1 : Int32)) else (if ((100 : Int32) * a4_7) < (a2_7 * a1_7) then (some (-1 : Int32)) else (some a3_7)))) xf a1 a2 (-1 : Int32) (0 : Int32) (0 : Int32))
set_option maxHeartbeats 400000 in
set_option maxRecDepth 100000 in
theorem kX12_ownerByCells {E : xE} {B : Nat} {n : Nat} {K : Nat → Nat × Nat} {P : Nat → Nat → Nat} {I : Nat → Nat → Int32} {L : Nat → Nat → Int64}  {a1 : Int32} {a2 : Int32} {q : Int32} (d : Nat) (hd : 0 ≤ d) (G : GW K P)   (hm : mX12_ownerByCells I a1 a2 = some q) : MX E B d 0 0 yX12_ownerByCells cX12_ownerByCells 6 (some .int) [.ref 123, .int a1, .int a2] (n, K, P, I, L) (some (.int q), (n, K, P, I, L)) := by
  refine MX_of (lv := [(0, .ref 123), (1, .int a1), (2, .int a2)]) (by decide +kernel) (Nat.le_of_ble_eq_true rfl) rfl ?_
  unfold mX12_ownerByCells at hm
  refine X_iconst (v := (-1 : Int32)) dX12_ownerByCells_0 (by decide) ?_
  refine X_istore_n (lv' := [(3, .int (-1 : Int32)), (0, .ref 123), (1, .int a1), (2, .int a2)]) dX12_ownerByCells_1 rfl (by decide) rfl ?_
  refine X_iconst (v := (0 : Int32)) dX12_ownerByCells_2 (by decide) ?_
  refine X_istore (lv' := [(4, .int (0 : Int32)), (3, .int (-1 : Int32)), (0, .ref 123), (1, .int a1), (2, .int a2)]) dX12_ownerByCells_3 (by decide) rfl ?_
  refine X_iconst (v := (0 : Int32)) dX12_ownerByCells_5 (by decide) ?_
  refine X_istore (lv' := [(5, .int (0 : Int32)), (4, .int (0 : Int32)), (3, .int (-1 : Int32)), (0, .ref 123), (1, .int a1), (2, .int a2)]) dX12_ownerByCells_6 (by decide) rfl ?_
  refine X_lv [3, 4, 5, 2, 1, 0] rfl (kX12_ownerByCells_8 _ hd G (fun a1_7 a2_7 a3_7 a4_7 hm => ?_) xf _ _ _ _ _  hm)
  refine X_iload_n 2 dX12_ownerByCells_65 rfl rfl ?_
  refine X_iconst (v := (-1 : Int32)) dX12_ownerByCells_66 (by decide) ?_
  refine X_icmp_eq (tgt := 85) dX12_ownerByCells_67 (by decide) (fun c8 => ?_) (fun c8 => ?_)
  · replace hm := ip c8 hm
    refine X_iconst (v := (-1 : Int32)) dX12_ownerByCells_85 (by decide) ?_
    replace hm := Option.some.inj hm
    subst hm
    exact X_iret dX12_ownerByCells_86 rfl
  · replace hm := iq c8 hm
    refine X_bipush (v := (100 : Int32)) dX12_ownerByCells_70 (by decide) ?_
    refine X_iload 3 dX12_ownerByCells_72 rfl ?_
    refine X_imul dX12_ownerByCells_74 ?_
    refine X_iload_n 1 dX12_ownerByCells_75 rfl rfl ?_
    refine X_iload_n 0 dX12_ownerByCells_76 rfl rfl ?_
    refine X_imul dX12_ownerByCells_77 ?_
    refine X_icmp_lt (tgt := 85) dX12_ownerByCells_78 (by decide) (fun c9 => ?_) (fun c9 => ?_)
    · replace hm := ip c9 hm
      refine X_iconst (v := (-1 : Int32)) dX12_ownerByCells_85 (by decide) ?_
      replace hm := Option.some.inj hm
      subst hm
      exact X_iret dX12_ownerByCells_86 rfl
    · replace hm := iq c9 hm
      refine X_iload_n 2 dX12_ownerByCells_81 rfl rfl ?_
      refine X_goto (tgt := 86) dX12_ownerByCells_82 (by decide) ?_
      replace hm := Option.some.inj hm
      subst hm
      exact X_iret dX12_ownerByCells_86 rfl
def mX12_countsCells_3  (e23 : (Nat → Nat → Int32) → Int32 → Int32 → Int32 → Option ((Nat → Nat → Int32))) : Nat → (Nat → Nat → Int32) → Int32 → Int32 → Int32 → Int32 → Option ((Nat → Nat → Int32))
  | 0, _, _, _, _, _ => none
  | f + 1, I, a1, a2, a3, a4 => (if (4 : Int32) ≤ a4 then (e23 I a1 a2 a3) else (if inb a4 4 = true then (mX12_countsCells_3 e23 f (xu I 160 (ix a4) (0 : Int32)) a1 a2 a3 (a4 + 1)) else none))
set_option maxHeartbeats 400000 in
set_option maxRecDepth 100000 in
theorem kX12_countsCells_3 {E : xE} {B : Nat} {n : Nat} {K : Nat → Nat × Nat} {P : Nat → Nat → Nat} {L : Nat → Nat → Int64}  {e23 : (Nat → Nat → Int32) → Int32 → Int32 → Int32 → Option ((Nat → Nat → Int32))} {q : (Nat → Nat → Int32)} (d : Nat) (hd : 2 ≤ d) (G : GW K P)  (he23 : ∀ (I : Nat → Nat → Int32) (a1 : Int32) (a2 : Int32) (a3 : Int32), e23 I a1 a2 a3 = some q → X E B d 0 0 yX12_countsCells cX12_countsCells 7 (none : Option Jvm.ClassFile.FieldType) (none, (n, K, P, q, L)) 23 [(0, .ref 123), (1, .int a1), (2, .int a2), (3, .int a3)] [] 0 0 (n, K, P, I, L)) : ∀ (f : Nat) (I : Nat → Nat → Int32) (a1 : Int32) (a2 : Int32) (a3 : Int32) (a4 : Int32), mX12_countsCells_3 e23 f I a1 a2 a3 a4 = some q → X E B d 0 0 yX12_countsCells cX12_countsCells 7 (none : Option Jvm.ClassFile.FieldType) (none, (n, K, P, q, L)) 3 [(0, .ref 123), (1, .int a1), (2, .int a2), (3, .int a3), (4, .int a4)] [] 0 0 (n, K, P, I, L) := by
  obtain ⟨d, rfl⟩ : ∃ d0, d = d0 + 1 := ⟨d - 1, by omega⟩
  intro f
  induction f with
  | zero => intro _ _ _ _ _ hm; exact nomatch (show (none : Option ((Nat → Nat → Int32))) = some q from hm)
  | succ f ih =>
    intro I a1 a2 a3 a4 hm
    rw [mX12_countsCells_3] at hm
    refine X_iload 4 dX12_countsCells_3 rfl ?_
    refine X_iconst (v := (4 : Int32)) dX12_countsCells_5 (by decide) ?_
    refine X_icmp_ge (tgt := 23) dX12_countsCells_6 (by decide) (fun c1 => ?_) (fun c1 => ?_)
    · replace hm := ip c1 hm
      exact X_lv [0, 1, 2, 3] rfl (he23 _ _ _ _ hm)
    · replace hm := iq c1 hm
      refine X_aload_n 0 dX12_countsCells_9 rfl rfl rfl ?_
      refine X_getPe fl_X12_124 (g_K123 G) rfl (g_P123_47 G) dX12_countsCells_10 ?_
      refine X_iload 4 dX12_countsCells_13 rfl ?_
      refine X_iconst (v := (0 : Int32)) dX12_countsCells_15 (by decide) ?_
      obtain ⟨g2, hm⟩ := og hm
      refine X_iastJ (g_K160 G) g2 rfl dX12_countsCells_16 ?_
      refine X_iinc (lv' := [(4, .int (a4 + 1)), (0, .ref 123), (1, .int a1), (2, .int a2), (3, .int a3)]) 4 dX12_countsCells_17 rfl rfl (by decide) rfl ?_
      refine X_goto (tgt := 3) dX12_countsCells_20 (by decide) ?_
      exact X_lv [1, 2, 3, 4, 0] rfl (ih _ _ _ _ _ hm)
def mX12_countsCells_53  (e86 : (Nat → Nat → Int32) → Int32 → Int32 → Int32 → Int32 → Int32 → Option ((Nat → Nat → Int32))) : Nat → (Nat → Nat → Int32) → Int32 → Int32 → Int32 → Int32 → Int32 → Option ((Nat → Nat → Int32))
  | 0, _, _, _, _, _, _ => none
  | f + 1, I, a1, a2, a3, a4, a5 => (if a3 = 0 then (e86 I a1 a2 a3 a4 a5) else (if a5 ≤ 0 then (e86 I a1 a2 a3 a4 a5) else (if inb ((((5 : Int32) * a4) + a5) - (1 : Int32)) 80 = true then (if (I 133 (ix ((((5 : Int32) * a4) + a5) - (1 : Int32)))) < a2 then (e86 I a1 a2 a3 a4 a5) else (mX12_countsCells_53 e86 f I a1 a2 a3 a4 (a5 + (-1)))) else none)))
set_option maxHeartbeats 400000 in
set_option maxRecDepth 100000 in
theorem kX12_countsCells_53 {E : xE} {B : Nat} {n : Nat} {K : Nat → Nat × Nat} {P : Nat → Nat → Nat} {L : Nat → Nat → Int64}  {e86 : (Nat → Nat → Int32) → Int32 → Int32 → Int32 → Int32 → Int32 → Option ((Nat → Nat → Int32))} {q : (Nat → Nat → Int32)} (d : Nat) (hd : 2 ≤ d) (G : GW K P)  (he86 : ∀ (I : Nat → Nat → Int32) (a1 : Int32) (a2 : Int32) (a3 : Int32) (a4 : Int32) (a5 : Int32), e86 I a1 a2 a3 a4 a5 = some q → X E B d 0 0 yX12_countsCells cX12_countsCells 7 (none : Option Jvm.ClassFile.FieldType) (none, (n, K, P, q, L)) 86 [(0, .ref 123), (1, .int a1), (2, .int a2), (3, .int a3), (4, .int a4), (5, .int a5)] [] 0 0 (n, K, P, I, L)) : ∀ (f : Nat) (I : Nat → Nat → Int32) (a1 : Int32) (a2 : Int32) (a3 : Int32) (a4 : Int32) (a5 : Int32), mX12_countsCells_53 e86 f I a1 a2 a3 a4 a5 = some q → X E B d 0 0 yX12_countsCells cX12_countsCells 7 (none : Option Jvm.ClassFile.FieldType) (none, (n, K, P, q, L)) 53 [(0, .ref 123), (1, .int a1), (2, .int a2), (3, .int a3), (4, .int a4), (5, .int a5)] [] 0 0 (n, K, P, I, L) := by
  obtain ⟨d, rfl⟩ : ∃ d0, d = d0 + 1 := ⟨d - 1, by omega⟩
  intro f
  induction f with
  | zero => intro _ _ _ _ _ _ hm; exact nomatch (show (none : Option ((Nat → Nat → Int32))) = some q from hm)
  | succ f ih =>
    intro I a1 a2 a3 a4 a5 hm
    rw [mX12_countsCells_53] at hm
    refine X_iload_n 3 dX12_countsCells_53 rfl rfl ?_
    refine X_if_eq (tgt := 86) dX12_countsCells_54 (by decide) (fun c8 => ?_) (fun c8 => ?_)
    · replace hm := ip c8 hm
      exact he86 _ _ _ _ _ _ hm
    · replace hm := iq c8 hm
      refine X_iload 5 dX12_countsCells_57 rfl ?_
      refine X_if_le (tgt := 86) dX12_countsCells_59 (by decide) (fun c9 => ?_) (fun c9 => ?_)
      · replace hm := ip c9 hm
        exact he86 _ _ _ _ _ _ hm
      · replace hm := iq c9 hm
        refine X_aload_n 0 dX12_countsCells_62 rfl rfl rfl ?_
        refine X_getPe fl_X12_37 (g_K123 G) rfl (g_P123_10 G) dX12_countsCells_63 ?_
        refine X_iconst (v := (5 : Int32)) dX12_countsCells_66 (by decide) ?_
        refine X_iload 4 dX12_countsCells_67 rfl ?_
        refine X_imul dX12_countsCells_69 ?_
        refine X_iload 5 dX12_countsCells_70 rfl ?_
        refine X_iadd dX12_countsCells_72 ?_
        refine X_iconst (v := (1 : Int32)) dX12_countsCells_73 (by decide) ?_
        refine X_isub dX12_countsCells_74 ?_
        obtain ⟨g10, hm⟩ := og hm
        refine X_ialdJ (g_K133 G) g10 rfl dX12_countsCells_75 ?_
        refine X_iload_n 2 dX12_countsCells_76 rfl rfl ?_
        refine X_icmp_lt (tgt := 86) dX12_countsCells_77 (by decide) (fun c11 => ?_) (fun c11 => ?_)
        · replace hm := ip c11 hm
          exact he86 _ _ _ _ _ _ hm
        · replace hm := iq c11 hm
          refine X_iinc (lv' := [(5, .int (a5 + (-1))), (0, .ref 123), (1, .int a1), (2, .int a2), (3, .int a3), (4, .int a4)]) 5 dX12_countsCells_80 rfl rfl (by decide) rfl ?_
          refine X_goto (tgt := 53) dX12_countsCells_83 (by decide) ?_
          exact X_lv [1, 2, 3, 4, 5, 0] rfl (ih _ _ _ _ _ _ hm)
def mX12_countsCells_86 (b31 : (Nat → Nat → Int32) → Int32 → Int32 → Int32 → Int32 → Option ((Nat → Nat → Int32))) (I : Nat → Nat → Int32) (a1 : Int32) (a2 : Int32) (a3 : Int32) (a4 : Int32) (a5 : Int32) : Option ((Nat → Nat → Int32)) := (Option.bind (mX12_ownerBy I a4 a5 a2) (fun q13 => (if q13 = (-1 : Int32) then (b31 I a1 a2 a3 (a4 + 1)) else (if inb q13 4 = true then (if inb q13 4 = true then (b31 (xu I 160 (ix q13) ((I 160 (ix q13)) + (1 : Int32))) a1 a2 a3 (a4 + 1)) else none) else none))))
set_option maxHeartbeats 400000 in
set_option maxRecDepth 100000 in
theorem kX12_countsCells_86 {E : xE} {B : Nat} {n : Nat} {K : Nat → Nat × Nat} {P : Nat → Nat → Nat} {I : Nat → Nat → Int32} {L : Nat → Nat → Int64}  {b31 : (Nat → Nat → Int32) → Int32 → Int32 → Int32 → Int32 → Option ((Nat → Nat → Int32))} {a1 : Int32} {a2 : Int32} {a3 : Int32} {a4 : Int32} {a5 : Int32} {q : (Nat → Nat → Int32)} (d : Nat) (hd : 2 ≤ d) (G : GW K P)  (hb31 : ∀ (I : Nat → Nat → Int32) (a1 : Int32) (a2 : Int32) (a3 : Int32) (a4 : Int32), b31 I a1 a2 a3 a4 = some q → X E B d 0 0 yX12_countsCells cX12_countsCells 7 (none : Option Jvm.ClassFile.FieldType) (none, (n, K, P, q, L)) 31 [(0, .ref 123), (1, .int a1), (2, .int a2), (3, .int a3), (4, .int a4)] [] 0 0 (n, K, P, I, L))  (hm : mX12_countsCells_86 b31 I a1 a2 a3 a4 a5 = some q) : X E B d 0 0 yX12_countsCells cX12_countsCells 7 (none : Option Jvm.ClassFile.FieldType) (none, (n, K, P, q, L)) 86 [(0, .ref 123), (1, .int a1), (2, .int a2), (3, .int a3), (4, .int a4), (5, .int a5)] [] 0 0 (n, K, P, I, L) := by
  obtain ⟨d, rfl⟩ : ∃ d0, d = d0 + 1 := ⟨d - 1, by omega⟩
  unfold mX12_countsCells_86 at hm
  refine X_aload_n 0 dX12_countsCells_86 rfl rfl rfl ?_
  refine X_iload 4 dX12_countsCells_87 rfl ?_
  refine X_iload 5 dX12_countsCells_89 rfl ?_
  refine X_iload_n 2 dX12_countsCells_91 rfl rfl ?_
  obtain ⟨q13, e14, hm⟩ := ob hm
  refine X_cV1 (ci := 11) (kX12_ownerBy d (by omega) G e14) ml_X12_388 mi_X12_ownerBy rfl cf_11 (g_K123 G) rfl rfl (Nat.le_refl _) ⟨Nat.le_refl _, Nat.le_refl _⟩ (Nat.le_of_ble_eq_true rfl) dX12_countsCells_92 ?_
  refine X_istore (lv' := [(6, .int q13), (0, .ref 123), (1, .int a1), (2, .int a2), (3, .int a3), (4, .int a4), (5, .int a5)]) dX12_countsCells_95 (by decide) rfl ?_
  refine X_iload 0 dX12_countsCells_97 rfl ?_
  refine X_iconst (v := (-1 : Int32)) dX12_countsCells_99 (by decide) ?_
  refine X_icmp_eq (tgt := 114) dX12_countsCells_100 (by decide) (fun c15 => ?_) (fun c15 => ?_)
  · replace hm := ip c15 hm
    refine X_iinc (lv' := [(4, .int (a4 + 1)), (6, .int q13), (0, .ref 123), (1, .int a1), (2, .int a2), (3, .int a3), (5, .int a5)]) 5 dX12_countsCells_114 rfl rfl (by decide) rfl ?_
    refine X_goto (tgt := 31) dX12_countsCells_117 (by decide) ?_
    exact X_lv [2, 3, 4, 5, 0] rfl (hb31 _ _ _ _ _ hm)
  · replace hm := iq c15 hm
    refine X_aload_n 1 dX12_countsCells_103 rfl rfl rfl ?_
    refine X_getPe fl_X12_124 (g_K123 G) rfl (g_P123_47 G) dX12_countsCells_104 ?_
    refine X_iload 0 dX12_countsCells_107 rfl ?_
    refine X_dup2 dX12_countsCells_109 rfl rfl ?_
    obtain ⟨g16, hm⟩ := og hm
    refine X_ialdJ (g_K160 G) g16 rfl dX12_countsCells_110 ?_
    refine X_iconst (v := (1 : Int32)) dX12_countsCells_111 (by decide) ?_
    refine X_iadd dX12_countsCells_112 ?_
    obtain ⟨g17, hm⟩ := og hm
    refine X_iastJ (g_K160 G) g17 rfl dX12_countsCells_113 ?_
    refine X_iinc (lv' := [(4, .int (a4 + 1)), (6, .int q13), (0, .ref 123), (1, .int a1), (2, .int a2), (3, .int a3), (5, .int a5)]) 5 dX12_countsCells_114 rfl rfl (by decide) rfl ?_
    refine X_goto (tgt := 31) dX12_countsCells_117 (by decide) ?_
    exact X_lv [2, 3, 4, 5, 0] rfl (hb31 _ _ _ _ _ hm)
def mX12_countsCells_31   : Nat → (Nat → Nat → Int32) → Int32 → Int32 → Int32 → Int32 → Option ((Nat → Nat → Int32))
  | 0, _, _, _, _, _ => none
  | f + 1, I, a1, a2, a3, a4 => (if inb (a1 + (1 : Int32)) 5 = true then (if (I 125 (ix (a1 + (1 : Int32)))) ≤ a4 then (some I) else (if inb a4 16 = true then (mX12_countsCells_53 (fun (I_12 : (Nat → Nat → Int32)) (a1_12 : Int32) (a2_12 : Int32) (a3_12 : Int32) (a4_12 : Int32) (a5_12 : Int32) => (mX12_countsCells_86 (fun (I : Nat → Nat → Int32) (a1 : Int32) (a2 : Int32) (a3 : Int32) (a4 : Int32) => mX12_countsCells_31  f I a1 a2 a3 a4) I_12 a1_12 a2_12 a3_12 a4_12 a5_12)) xf I a1 a2 a3 a4 (I 131 (ix a4))) else none)) else none)
set_option maxHeartbeats 400000 in
set_option maxRecDepth 100000 in
theorem kX12_countsCells_31 {E : xE} {B : Nat} {n : Nat} {K : Nat → Nat × Nat} {P : Nat → Nat → Nat} {L : Nat → Nat → Int64}   {q : (Nat → Nat → Int32)} (d : Nat) (hd : 2 ≤ d) (G : GW K P)   : ∀ (f : Nat) (I : Nat → Nat → Int32) (a1 : Int32) (a2 : Int32) (a3 : Int32) (a4 : Int32), mX12_countsCells_31 f I a1 a2 a3 a4 = some q → X E B d 0 0 yX12_countsCells cX12_countsCells 7 (none : Option Jvm.ClassFile.FieldType) (none, (n, K, P, q, L)) 31 [(0, .ref 123), (1, .int a1), (2, .int a2), (3, .int a3), (4, .int a4)] [] 0 0 (n, K, P, I, L) := by
  obtain ⟨d, rfl⟩ : ∃ d0, d = d0 + 1 := ⟨d - 1, by omega⟩
  intro f
  induction f with
  | zero => intro _ _ _ _ _ hm; exact nomatch (show (none : Option ((Nat → Nat → Int32))) = some q from hm)
  | succ f ih =>
    intro I a1 a2 a3 a4 hm
    rw [mX12_countsCells_31] at hm
    refine X_iload 4 dX12_countsCells_31 rfl ?_
    refine X_aload_n 0 dX12_countsCells_33 rfl rfl rfl ?_
    refine X_getPe fl_X12_13 (g_K123 G) rfl (g_P123_2 G) dX12_countsCells_34 ?_
    refine X_iload_n 1 dX12_countsCells_37 rfl rfl ?_
    refine X_iconst (v := (1 : Int32)) dX12_countsCells_38 (by decide) ?_
    refine X_iadd dX12_countsCells_39 ?_
    obtain ⟨g5, hm⟩ := og hm
    refine X_ialdJ (g_K125 G) g5 rfl dX12_countsCells_40 ?_
    refine X_icmp_ge (tgt := 120) dX12_countsCells_41 (by decide) (fun c6 => ?_) (fun c6 => ?_)
    · replace hm := ip c6 hm
      replace hm := Option.some.inj hm
      subst hm
      exact X_vret dX12_countsCells_120 rfl
    · replace hm := iq c6 hm
      refine X_aload_n 0 dX12_countsCells_44 rfl rfl rfl ?_
      refine X_getPe fl_X12_31 (g_K123 G) rfl (g_P123_8 G) dX12_countsCells_45 ?_
      refine X_iload 4 dX12_countsCells_48 rfl ?_
      obtain ⟨g7, hm⟩ := og hm
      refine X_ialdJ (g_K131 G) g7 rfl dX12_countsCells_50 ?_
      refine X_istore (lv' := [(5, .int (I 131 (ix a4))), (0, .ref 123), (1, .int a1), (2, .int a2), (3, .int a3), (4, .int a4)]) dX12_countsCells_51 (by decide) rfl ?_
      refine X_lv [1, 2, 3, 4, 5, 0] rfl (kX12_countsCells_53 _ hd G (fun I_12 a1_12 a2_12 a3_12 a4_12 a5_12 hm => ?_) xf _ _ _ _ _ _  hm)
      exact kX12_countsCells_86 _ hd G ih hm
def mX12_countsCells  (I : Nat → Nat → Int32) (a1 : Int32) (a2 : Int32) (a3 : Int32) : Option ((Nat → Nat → Int32)) := (mX12_countsCells_3 (fun (I_3 : (Nat → Nat → Int32)) (a1_3 : Int32) (a2_3 : Int32) (a3_3 : Int32) => (if inb a1_3 5 = true then (mX12_countsCells_31 xf I_3 a1_3 a2_3 a3_3 (I_3 125 (ix a1_3))) else none)) xf I a1 a2 a3 (0 : Int32))
set_option maxHeartbeats 400000 in
set_option maxRecDepth 100000 in
theorem kX12_countsCells {E : xE} {B : Nat} {n : Nat} {K : Nat → Nat × Nat} {P : Nat → Nat → Nat} {I : Nat → Nat → Int32} {L : Nat → Nat → Int64}  {a1 : Int32} {a2 : Int32} {a3 : Int32} {q : (Nat → Nat → Int32)} (d : Nat) (hd : 2 ≤ d) (G : GW K P)   (hm : mX12_countsCells I a1 a2 a3 = some q) : MX E B d 0 0 yX12_countsCells cX12_countsCells 7 (none : Option Jvm.ClassFile.FieldType) [.ref 123, .int a1, .int a2, .int a3] (n, K, P, I, L) (none, (n, K, P, q, L)) := by
  refine MX_of (lv := [(0, .ref 123), (1, .int a1), (2, .int a2), (3, .int a3)]) (by decide +kernel) (Nat.le_of_ble_eq_true rfl) rfl ?_
  obtain ⟨d, rfl⟩ : ∃ d0, d = d0 + 1 := ⟨d - 1, by omega⟩
  unfold mX12_countsCells at hm
  refine X_iconst (v := (0 : Int32)) dX12_countsCells_0 (by decide) ?_
  refine X_istore (lv' := [(4, .int (0 : Int32)), (0, .ref 123), (1, .int a1), (2, .int a2), (3, .int a3)]) dX12_countsCells_1 (by decide) rfl ?_
  refine X_lv [1, 2, 3, 4, 0] rfl (kX12_countsCells_3 _ hd G (fun I_3 a1_3 a2_3 a3_3 hm => ?_) xf _ _ _ _ _  hm)
  refine X_aload_n 0 dX12_countsCells_23 rfl rfl rfl ?_
  refine X_getPe fl_X12_13 (g_K123 G) rfl (g_P123_2 G) dX12_countsCells_24 ?_
  refine X_iload_n 1 dX12_countsCells_27 rfl rfl ?_
  obtain ⟨g4, hm⟩ := og hm
  refine X_ialdJ (g_K125 G) g4 rfl dX12_countsCells_28 ?_
  refine X_istore (lv' := [(4, .int (I_3 125 (ix a1_3))), (0, .ref 123), (1, .int a1_3), (2, .int a2_3), (3, .int a3_3)]) dX12_countsCells_29 (by decide) rfl ?_
  refine X_lv [1, 2, 3, 4, 0] rfl (kX12_countsCells_31 _ hd G xf _ _ _ _ _  hm)

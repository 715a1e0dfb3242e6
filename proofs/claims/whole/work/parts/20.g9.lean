def mX12_keepsAll_8   : Nat → (Nat → Nat → Int32) → Int32 → Option ((Nat → Nat → Int32))
  | 0, _, _ => none
  | f + 1, I, a1 => (if (4 : Int32) ≤ a1 then (some I) else (if inb a1 4 = true then (mX12_keepsAll_8 f (xu I 161 (ix a1) (0 : Int32)) (a1 + 1)) else none))
set_option maxHeartbeats 400000 in
set_option maxRecDepth 100000 in
theorem kX12_keepsAll_8 {E : xE} {B : Nat} {n : Nat} {K : Nat → Nat × Nat} {P : Nat → Nat → Nat} {L : Nat → Nat → Int64}   {q : (Nat → Nat → Int32)} (d : Nat) (hd : 2 ≤ d) (G : GW K P)   : ∀ (f : Nat) (I : Nat → Nat → Int32) (a1 : Int32), mX12_keepsAll_8 f I a1 = some q → X E B d 0 0 yX12_keepsAll cX12_keepsAll 2 (none : Option Jvm.ClassFile.FieldType) (none, (n, K, P, q, L)) 8 [(0, .ref 123), (1, .int a1)] [] 0 0 (n, K, P, I, L) := by
  obtain ⟨d, rfl⟩ : ∃ d0, d = d0 + 1 := ⟨d - 1, by omega⟩
  intro f
  induction f with
  | zero => intro _ _ hm; exact nomatch (show (none : Option ((Nat → Nat → Int32))) = some q from hm)
  | succ f ih =>
    intro I a1 hm
    rw [mX12_keepsAll_8] at hm
    refine X_iload_n 1 dX12_keepsAll_8 rfl rfl ?_
    refine X_iconst (v := (4 : Int32)) dX12_keepsAll_9 (by decide) ?_
    refine X_icmp_ge (tgt := 26) dX12_keepsAll_10 (by decide) (fun c3 => ?_) (fun c3 => ?_)
    · replace hm := ip c3 hm
      replace hm := Option.some.inj hm
      subst hm
      exact X_vret dX12_keepsAll_26 rfl
    · replace hm := iq c3 hm
      refine X_aload_n 0 dX12_keepsAll_13 rfl rfl rfl ?_
      refine X_getPe fl_X12_127 (g_K123 G) rfl (g_P123_48 G) dX12_keepsAll_14 ?_
      refine X_iload_n 1 dX12_keepsAll_17 rfl rfl ?_
      refine X_iconst (v := (0 : Int32)) dX12_keepsAll_18 (by decide) ?_
      obtain ⟨g4, hm⟩ := og hm
      refine X_iastJ (g_K161 G) g4 rfl dX12_keepsAll_19 ?_
      refine X_iinc (lv' := [(1, .int (a1 + 1)), (0, .ref 123)]) 1 dX12_keepsAll_20 rfl rfl (by decide) rfl ?_
      refine X_goto (tgt := 8) dX12_keepsAll_23 (by decide) ?_
      exact X_lv [1, 0] rfl (ih _ _ hm)
def mX12_keepsAll  (I : Nat → Nat → Int32) : Option ((Nat → Nat → Int32)) := (Option.bind (mX12_carriesAll I (4 : Int32) (0 : Int32)) (fun q1 => (mX12_keepsAll_8 xf q1 (0 : Int32))))
set_option maxHeartbeats 400000 in
set_option maxRecDepth 100000 in
theorem kX12_keepsAll {E : xE} {B : Nat} {n : Nat} {K : Nat → Nat × Nat} {P : Nat → Nat → Nat} {I : Nat → Nat → Int32} {L : Nat → Nat → Int64}   {q : (Nat → Nat → Int32)} (d : Nat) (hd : 2 ≤ d) (G : GW K P)   (hm : mX12_keepsAll I = some q) : MX E B d 0 0 yX12_keepsAll cX12_keepsAll 2 (none : Option Jvm.ClassFile.FieldType) [.ref 123] (n, K, P, I, L) (none, (n, K, P, q, L)) := by
  refine MX_of (lv := [(0, .ref 123)]) (by decide +kernel) (Nat.le_of_ble_eq_true rfl) rfl ?_
  obtain ⟨d, rfl⟩ : ∃ d0, d = d0 + 1 := ⟨d - 1, by omega⟩
  unfold mX12_keepsAll at hm
  refine X_aload_n 0 dX12_keepsAll_0 rfl rfl rfl ?_
  refine X_iconst (v := (4 : Int32)) dX12_keepsAll_1 (by decide) ?_
  refine X_iconst (v := (0 : Int32)) dX12_keepsAll_2 (by decide) ?_
  obtain ⟨q1, e2, hm⟩ := ob hm
  refine X_cV0 (ci := 11) (kX12_carriesAll d (by omega) G e2) ml_X12_481 mi_X12_carriesAll rfl cf_11 (g_K123 G) rfl rfl (Nat.le_refl _) ⟨Nat.le_refl _, Nat.le_refl _⟩ (Nat.le_of_ble_eq_true rfl) dX12_keepsAll_3 ?_
  refine X_iconst (v := (0 : Int32)) dX12_keepsAll_6 (by decide) ?_
  refine X_istore_n (lv' := [(1, .int (0 : Int32)), (0, .ref 123)]) dX12_keepsAll_7 rfl (by decide) rfl ?_
  refine X_lv [1, 0] rfl (kX12_keepsAll_8 _ hd G xf _ _  hm)
def mX12_laysBack  (I : Nat → Nat → Int32) : Option ((Nat → Nat → Int32)) := (Option.bind (mX12_carriesAll I (4 : Int32) (1 : Int32)) (fun q1 => (some q1)))
set_option maxHeartbeats 400000 in
set_option maxRecDepth 100000 in
theorem kX12_laysBack {E : xE} {B : Nat} {n : Nat} {K : Nat → Nat × Nat} {P : Nat → Nat → Nat} {I : Nat → Nat → Int32} {L : Nat → Nat → Int64}   {q : (Nat → Nat → Int32)} (d : Nat) (hd : 2 ≤ d) (G : GW K P)   (hm : mX12_laysBack I = some q) : MX E B d 0 0 yX12_laysBack cX12_laysBack 1 (none : Option Jvm.ClassFile.FieldType) [.ref 123] (n, K, P, I, L) (none, (n, K, P, q, L)) := by
  refine MX_of (lv := [(0, .ref 123)]) (by decide +kernel) (Nat.le_of_ble_eq_true rfl) rfl ?_
  obtain ⟨d, rfl⟩ : ∃ d0, d = d0 + 1 := ⟨d - 1, by omega⟩
  unfold mX12_laysBack at hm
  refine X_aload_n 0 dX12_laysBack_0 rfl rfl rfl ?_
  refine X_iconst (v := (4 : Int32)) dX12_laysBack_1 (by decide) ?_
  refine X_iconst (v := (1 : Int32)) dX12_laysBack_2 (by decide) ?_
  obtain ⟨q1, e2, hm⟩ := ob hm
  refine X_cV0 (ci := 11) (kX12_carriesAll d (by omega) G e2) ml_X12_481 mi_X12_carriesAll rfl cf_11 (g_K123 G) rfl rfl (Nat.le_refl _) ⟨Nat.le_refl _, Nat.le_refl _⟩ (Nat.le_of_ble_eq_true rfl) dX12_laysBack_3 ?_
  replace hm := Option.some.inj hm
  subst hm
  exact X_vret dX12_laysBack_6 rfl
def mX12_isNumber (I : Nat → Nat → Int32) (a1 : Int32) (a2 : Int32) : Option (Int32) := (if a2 = 0 then (Option.bind (mX12_isThing I a1) (fun q9 => (if q9 = 0 ∨ q9 = 1 then (some q9) else none))) else (if a2 = (1 : Int32) then (Option.bind (mX12_isPainter I a1) (fun q6 => (if q6 = 0 ∨ q6 = 1 then (some q6) else none))) else (Option.bind (mX12_isCell I a1) (fun q3 => (if q3 = 0 ∨ q3 = 1 then (some q3) else none)))))
set_option maxHeartbeats 400000 in
set_option maxRecDepth 100000 in
theorem kX12_isNumber {E : xE} {B : Nat} {n : Nat} {K : Nat → Nat × Nat} {P : Nat → Nat → Nat} {I : Nat → Nat → Int32} {L : Nat → Nat → Int64}  {a1 : Int32} {a2 : Int32} {q : Int32} (d : Nat) (hd : 2 ≤ d) (G : GW K P)   (hm : mX12_isNumber I a1 a2 = some q) : MX E B d 0 0 yX12_isNumber cX12_isNumber 3 (some .boolean) [.ref 123, .int a1, .int a2] (n, K, P, I, L) (some (.int q), (n, K, P, I, L)) := by
  refine MX_of (lv := [(0, .ref 123), (1, .int a1), (2, .int a2)]) (by decide +kernel) (Nat.le_of_ble_eq_true rfl) rfl ?_
  obtain ⟨d, rfl⟩ : ∃ d0, d = d0 + 1 := ⟨d - 1, by omega⟩
  unfold mX12_isNumber at hm
  refine X_iload_n 2 dX12_isNumber_0 rfl rfl ?_
  refine X_if_ne (tgt := 12) dX12_isNumber_1 (by decide) (fun c1 => ?_) (fun c1 => ?_)
  · replace hm := iq c1 hm
    refine X_iload_n 2 dX12_isNumber_12 rfl rfl ?_
    refine X_iconst (v := (1 : Int32)) dX12_isNumber_13 (by decide) ?_
    refine X_icmp_ne (tgt := 25) dX12_isNumber_14 (by decide) (fun c2 => ?_) (fun c2 => ?_)
    · replace hm := iq c2 hm
      refine X_aload_n 0 dX12_isNumber_25 rfl rfl rfl ?_
      refine X_iload_n 1 dX12_isNumber_26 rfl rfl ?_
      obtain ⟨q3, e4, hm⟩ := ob hm
      refine X_cV1 (ci := 11) (kX12_isCell d (by omega) G e4) ml_X12_405 mi_X12_isCell rfl cf_11 (g_K123 G) rfl rfl (Nat.le_refl _) ⟨Nat.le_refl _, Nat.le_refl _⟩ (Nat.le_of_ble_eq_true rfl) dX12_isNumber_27 ?_
      obtain ⟨g5, hm⟩ := og hm
      replace hm := Option.some.inj hm
      subst hm
      exact X_zret dX12_isNumber_30 rfl (x_nz g5)
    · replace hm := ip c2 hm
      refine X_aload_n 0 dX12_isNumber_17 rfl rfl rfl ?_
      refine X_iload_n 1 dX12_isNumber_18 rfl rfl ?_
      obtain ⟨q6, e7, hm⟩ := ob hm
      refine X_cV1 (ci := 11) (kX12_isPainter d (by omega) G e7) ml_X12_423 mi_X12_isPainter rfl cf_11 (g_K123 G) rfl rfl (Nat.le_refl _) ⟨Nat.le_refl _, Nat.le_refl _⟩ (Nat.le_of_ble_eq_true rfl) dX12_isNumber_19 ?_
      refine X_goto (tgt := 30) dX12_isNumber_22 (by decide) ?_
      obtain ⟨g8, hm⟩ := og hm
      replace hm := Option.some.inj hm
      subst hm
      exact X_zret dX12_isNumber_30 rfl (x_nz g8)
  · replace hm := ip c1 hm
    refine X_aload_n 0 dX12_isNumber_4 rfl rfl rfl ?_
    refine X_iload_n 1 dX12_isNumber_5 rfl rfl ?_
    obtain ⟨q9, e10, hm⟩ := ob hm
    refine X_cV1 (ci := 11) (kX12_isThing d (by omega) G e10) ml_X12_417 mi_X12_isThing rfl cf_11 (g_K123 G) rfl rfl (Nat.le_refl _) ⟨Nat.le_refl _, Nat.le_refl _⟩ (Nat.le_of_ble_eq_true rfl) dX12_isNumber_6 ?_
    refine X_goto (tgt := 30) dX12_isNumber_9 (by decide) ?_
    obtain ⟨g11, hm⟩ := og hm
    replace hm := Option.some.inj hm
    subst hm
    exact X_zret dX12_isNumber_30 rfl (x_nz g11)
def mX12_ahead_76  (I : Nat → Nat → Int32) (L : Nat → Nat → Int64) (t0 : Int32) : Option (Int32 × (Nat → Nat → Int32) × (Nat → Nat → Int64)) := (Option.bind (mX12_laysBack I) (fun q18 => (some (t0, q18, L))))
set_option maxHeartbeats 400000 in
set_option maxRecDepth 100000 in
theorem kX12_ahead_76 {E : xE} {B : Nat} {n : Nat} {K : Nat → Nat × Nat} {P : Nat → Nat → Nat} {I : Nat → Nat → Int32} {L : Nat → Nat → Int64}   {t0 : Int32} {q : Int32 × (Nat → Nat → Int32) × (Nat → Nat → Int64)} (d : Nat) (hd : 8 ≤ d) (G : GW K P)    (hm : mX12_ahead_76 I L t0 = some q) : X E B d 0 0 yX12_ahead cX12_ahead 5 (some .int) (some (.int q.1), (n, K, P, q.2.1, q.2.2)) 76 [(0, .ref 123)] [.int t0] 0 0 (n, K, P, I, L) := by
  obtain ⟨d, rfl⟩ : ∃ d0, d = d0 + 1 := ⟨d - 1, by omega⟩
  unfold mX12_ahead_76 at hm
  refine X_istore (lv' := [(4, .int t0), (0, .ref 123)]) dX12_ahead_76 (by decide) rfl ?_
  refine X_aload_n 1 dX12_ahead_78 rfl rfl rfl ?_
  obtain ⟨q18, e19, hm⟩ := ob hm
  refine X_cV0 (ci := 11) (kX12_laysBack d (by omega) G e19) ml_X12_497 mi_X12_laysBack rfl cf_11 (g_K123 G) rfl rfl (Nat.le_refl _) ⟨Nat.le_refl _, Nat.le_refl _⟩ (Nat.le_of_ble_eq_true rfl) dX12_ahead_79 ?_
  refine X_iload 0 dX12_ahead_82 rfl ?_
  replace hm := Option.some.inj hm
  subst hm
  exact X_iret dX12_ahead_84 rfl
def mX12_ahead  (I : Nat → Nat → Int32) (L : Nat → Nat → Int64) (a1 : Int32) (a2 : Int32) (a3 : Int32) : Option (Int32 × (Nat → Nat → Int32) × (Nat → Nat → Int64)) := (Option.bind (mX12_in a3.toInt64 (0 : Int64) (2 : Int64)) (fun q1 => (if q1 = 0 then (some ((-2 : Int32), I, L)) else (Option.bind (mX12_isNumber I a1 a3) (fun q4 => (if q4 = 0 then (some ((-2 : Int32), I, L)) else (Option.bind (mX12_in a2.toInt64 (0 : Int64) (100 : Int64)) (fun q7 => (if q7 = 0 then (some ((-2 : Int32), I, L)) else (Option.bind (mX12_keepsAll I) (fun q10 => (Option.bind (mX12_goes q10 L a2) (fun q12 => (if a3 = 0 then (Option.bind (mX12_thingOwner q12.1 a1) (fun q21 => (mX12_ahead_76 q21.2 q12.2 q21.1))) else (if a3 = (1 : Int32) then (if inb a1 4 = true then (mX12_ahead_76 q12.1 q12.2 (q12.1 128 (ix a1))) else none) else (Option.bind (mX12_ownerOf q12.1 a1) (fun q16 => (mX12_ahead_76 q12.1 q12.2 q16))))))))))))))))))
set_option maxHeartbeats 400000 in
set_option maxRecDepth 100000 in
theorem kX12_ahead {E : xE} {B : Nat} {n : Nat} {K : Nat → Nat × Nat} {P : Nat → Nat → Nat} {I : Nat → Nat → Int32} {L : Nat → Nat → Int64}  {a1 : Int32} {a2 : Int32} {a3 : Int32} {q : Int32 × (Nat → Nat → Int32) × (Nat → Nat → Int64)} (d : Nat) (hd : 8 ≤ d) (G : GW K P)   (hm : mX12_ahead I L a1 a2 a3 = some q) : MX E B d 0 0 yX12_ahead cX12_ahead 5 (some .int) [.ref 123, .int a1, .int a2, .int a3] (n, K, P, I, L) (some (.int q.1), (n, K, P, q.2.1, q.2.2)) := by
  refine MX_of (lv := [(0, .ref 123), (1, .int a1), (2, .int a2), (3, .int a3)]) (by decide +kernel) (Nat.le_of_ble_eq_true rfl) rfl ?_
  obtain ⟨d, rfl⟩ : ∃ d0, d = d0 + 1 := ⟨d - 1, by omega⟩
  unfold mX12_ahead at hm
  refine X_iload_n 3 dX12_ahead_0 rfl rfl ?_
  refine X_i2l dX12_ahead_1 ?_
  refine X_lconst (v := (0 : Int64)) dX12_ahead_2 (by decide) ?_
  refine X_ldc2 lc_X12_484 dX12_ahead_3 ?_
  obtain ⟨q1, e2, hm⟩ := ob hm
  refine X_cS1 (kX12_in d (by omega) G e2) ml_X12_164 ms_X12_in rfl rfl (Nat.le_refl _) ⟨Nat.le_refl _, Nat.le_refl _⟩ (Nat.le_of_ble_eq_true rfl) dX12_ahead_6 ?_
  refine X_if_eq (tgt := 33) dX12_ahead_9 (by decide) (fun c3 => ?_) (fun c3 => ?_)
  · replace hm := ip c3 hm
    refine X_bipush (v := (-2 : Int32)) dX12_ahead_33 (by decide) ?_
    replace hm := Option.some.inj hm
    subst hm
    exact X_iret dX12_ahead_35 rfl
  · replace hm := iq c3 hm
    refine X_aload_n 0 dX12_ahead_12 rfl rfl rfl ?_
    refine X_iload_n 1 dX12_ahead_13 rfl rfl ?_
    refine X_iload_n 3 dX12_ahead_14 rfl rfl ?_
    obtain ⟨q4, e5, hm⟩ := ob hm
    refine X_cV1 (ci := 11) (kX12_isNumber d (by omega) G e5) ml_X12_486 mi_X12_isNumber rfl cf_11 (g_K123 G) rfl rfl (Nat.le_refl _) ⟨Nat.le_refl _, Nat.le_refl _⟩ (Nat.le_of_ble_eq_true rfl) dX12_ahead_15 ?_
    refine X_if_eq (tgt := 33) dX12_ahead_18 (by decide) (fun c6 => ?_) (fun c6 => ?_)
    · replace hm := ip c6 hm
      refine X_bipush (v := (-2 : Int32)) dX12_ahead_33 (by decide) ?_
      replace hm := Option.some.inj hm
      subst hm
      exact X_iret dX12_ahead_35 rfl
    · replace hm := iq c6 hm
      refine X_iload_n 2 dX12_ahead_21 rfl rfl ?_
      refine X_i2l dX12_ahead_22 ?_
      refine X_lconst (v := (0 : Int64)) dX12_ahead_23 (by decide) ?_
      refine X_ldc2 lc_X12_489 dX12_ahead_24 ?_
      obtain ⟨q7, e8, hm⟩ := ob hm
      refine X_cS1 (kX12_in d (by omega) G e8) ml_X12_164 ms_X12_in rfl rfl (Nat.le_refl _) ⟨Nat.le_refl _, Nat.le_refl _⟩ (Nat.le_of_ble_eq_true rfl) dX12_ahead_27 ?_
      refine X_if_ne (tgt := 36) dX12_ahead_30 (by decide) (fun c9 => ?_) (fun c9 => ?_)
      · replace hm := iq c9 hm
        refine X_aload_n 0 dX12_ahead_36 rfl rfl rfl ?_
        obtain ⟨q10, e11, hm⟩ := ob hm
        refine X_cV0 (ci := 11) (kX12_keepsAll d (by omega) G e11) ml_X12_491 mi_X12_keepsAll rfl cf_11 (g_K123 G) rfl rfl (Nat.le_refl _) ⟨Nat.le_refl _, Nat.le_refl _⟩ (Nat.le_of_ble_eq_true rfl) dX12_ahead_37 ?_
        refine X_aload_n 0 dX12_ahead_40 rfl rfl rfl ?_
        refine X_iload_n 2 dX12_ahead_41 rfl rfl ?_
        obtain ⟨q12, e13, hm⟩ := ob hm
        refine X_cV0 (ci := 11) (kX12_goes d (by omega) G e13) ml_X12_494 mi_X12_goes rfl cf_11 (g_K123 G) rfl rfl (Nat.le_refl _) ⟨Nat.le_refl _, Nat.le_refl _⟩ (Nat.le_of_ble_eq_true rfl) dX12_ahead_42 ?_
        refine X_iload_n 3 dX12_ahead_45 rfl rfl ?_
        refine X_if_ne (tgt := 57) dX12_ahead_46 (by decide) (fun c14 => ?_) (fun c14 => ?_)
        · replace hm := iq c14 hm
          refine X_iload_n 3 dX12_ahead_57 rfl rfl ?_
          refine X_iconst (v := (1 : Int32)) dX12_ahead_58 (by decide) ?_
          refine X_icmp_ne (tgt := 71) dX12_ahead_59 (by decide) (fun c15 => ?_) (fun c15 => ?_)
          · replace hm := iq c15 hm
            refine X_aload_n 0 dX12_ahead_71 rfl rfl rfl ?_
            refine X_iload_n 1 dX12_ahead_72 rfl rfl ?_
            obtain ⟨q16, e17, hm⟩ := ob hm
            refine X_cV1 (ci := 11) (kX12_ownerOf d (by omega) G e17) ml_X12_402 mi_X12_ownerOf rfl cf_11 (g_K123 G) rfl rfl (Nat.le_refl _) ⟨Nat.le_refl _, Nat.le_refl _⟩ (Nat.le_of_ble_eq_true rfl) dX12_ahead_73 ?_
            exact X_lv [0] rfl (kX12_ahead_76 _ hd G hm)
          · replace hm := ip c15 hm
            refine X_aload_n 0 dX12_ahead_62 rfl rfl rfl ?_
            refine X_getPe fl_X12_22 (g_K123 G) rfl (g_P123_5 G) dX12_ahead_63 ?_
            refine X_iload_n 1 dX12_ahead_66 rfl rfl ?_
            obtain ⟨g20, hm⟩ := og hm
            refine X_ialdJ (g_K128 G) g20 rfl dX12_ahead_67 ?_
            refine X_goto (tgt := 76) dX12_ahead_68 (by decide) ?_
            exact X_lv [0] rfl (kX12_ahead_76 _ hd G hm)
        · replace hm := ip c14 hm
          refine X_aload_n 0 dX12_ahead_49 rfl rfl rfl ?_
          refine X_iload_n 1 dX12_ahead_50 rfl rfl ?_
          obtain ⟨q21, e22, hm⟩ := ob hm
          refine X_cV1 (ci := 11) (kX12_thingOwner d (by omega) G e22) ml_X12_420 mi_X12_thingOwner rfl cf_11 (g_K123 G) rfl rfl (Nat.le_refl _) ⟨Nat.le_refl _, Nat.le_refl _⟩ (Nat.le_of_ble_eq_true rfl) dX12_ahead_51 ?_
          refine X_goto (tgt := 76) dX12_ahead_54 (by decide) ?_
          exact X_lv [0] rfl (kX12_ahead_76 _ hd G hm)
      · replace hm := ip c9 hm
        refine X_bipush (v := (-2 : Int32)) dX12_ahead_33 (by decide) ?_
        replace hm := Option.some.inj hm
        subst hm
        exact X_iret dX12_ahead_35 rfl
def mX12_rents  (I : Nat → Nat → Int32) (L : Nat → Nat → Int64) (a1 : Int32) (a2 : Int32) : Option (Int32 × (Nat → Nat → Int32) × (Nat → Nat → Int64)) := (Option.bind (mX12_isPainter I a1) (fun q1 => (if q1 = 0 then (some ((-1 : Int32), I, L)) else (Option.bind (mX12_in a2.toInt64 (1 : Int64) (100 : Int64)) (fun q4 => (if q4 = 0 then (some ((-1 : Int32), I, L)) else (Option.bind (mX12_keepsAll I) (fun q7 => (Option.bind (mX12_goes q7 L a2) (fun q9 => (Option.bind (mX12_laysBack q9.1) (fun q11 => (if inb a1 4 = true then (some ((q11 161 (ix a1)), q11, q9.2)) else none)))))))))))))
set_option maxHeartbeats 400000 in
set_option maxRecDepth 100000 in
theorem kX12_rents {E : xE} {B : Nat} {n : Nat} {K : Nat → Nat × Nat} {P : Nat → Nat → Nat} {I : Nat → Nat → Int32} {L : Nat → Nat → Int64}  {a1 : Int32} {a2 : Int32} {q : Int32 × (Nat → Nat → Int32) × (Nat → Nat → Int64)} (d : Nat) (hd : 8 ≤ d) (G : GW K P)   (hm : mX12_rents I L a1 a2 = some q) : MX E B d 0 0 yX12_rents cX12_rents 3 (some .int) [.ref 123, .int a1, .int a2] (n, K, P, I, L) (some (.int q.1), (n, K, P, q.2.1, q.2.2)) := by
  refine MX_of (lv := [(0, .ref 123), (1, .int a1), (2, .int a2)]) (by decide +kernel) (Nat.le_of_ble_eq_true rfl) rfl ?_
  obtain ⟨d, rfl⟩ : ∃ d0, d = d0 + 1 := ⟨d - 1, by omega⟩
  unfold mX12_rents at hm
  refine X_aload_n 0 dX12_rents_0 rfl rfl rfl ?_
  refine X_iload_n 1 dX12_rents_1 rfl rfl ?_
  obtain ⟨q1, e2, hm⟩ := ob hm
  refine X_cV1 (ci := 11) (kX12_isPainter d (by omega) G e2) ml_X12_423 mi_X12_isPainter rfl cf_11 (g_K123 G) rfl rfl (Nat.le_refl _) ⟨Nat.le_refl _, Nat.le_refl _⟩ (Nat.le_of_ble_eq_true rfl) dX12_rents_2 ?_
  refine X_if_eq (tgt := 20) dX12_rents_5 (by decide) (fun c3 => ?_) (fun c3 => ?_)
  · replace hm := ip c3 hm
    refine X_iconst (v := (-1 : Int32)) dX12_rents_20 (by decide) ?_
    replace hm := Option.some.inj hm
    subst hm
    exact X_iret dX12_rents_21 rfl
  · replace hm := iq c3 hm
    refine X_iload_n 2 dX12_rents_8 rfl rfl ?_
    refine X_i2l dX12_rents_9 ?_
    refine X_lconst (v := (1 : Int64)) dX12_rents_10 (by decide) ?_
    refine X_ldc2 lc_X12_489 dX12_rents_11 ?_
    obtain ⟨q4, e5, hm⟩ := ob hm
    refine X_cS1 (kX12_in d (by omega) G e5) ml_X12_164 ms_X12_in rfl rfl (Nat.le_refl _) ⟨Nat.le_refl _, Nat.le_refl _⟩ (Nat.le_of_ble_eq_true rfl) dX12_rents_14 ?_
    refine X_if_ne (tgt := 22) dX12_rents_17 (by decide) (fun c6 => ?_) (fun c6 => ?_)
    · replace hm := iq c6 hm
      refine X_aload_n 0 dX12_rents_22 rfl rfl rfl ?_
      obtain ⟨q7, e8, hm⟩ := ob hm
      refine X_cV0 (ci := 11) (kX12_keepsAll d (by omega) G e8) ml_X12_491 mi_X12_keepsAll rfl cf_11 (g_K123 G) rfl rfl (Nat.le_refl _) ⟨Nat.le_refl _, Nat.le_refl _⟩ (Nat.le_of_ble_eq_true rfl) dX12_rents_23 ?_
      refine X_aload_n 0 dX12_rents_26 rfl rfl rfl ?_
      refine X_iload_n 2 dX12_rents_27 rfl rfl ?_
      obtain ⟨q9, e10, hm⟩ := ob hm
      refine X_cV0 (ci := 11) (kX12_goes d (by omega) G e10) ml_X12_494 mi_X12_goes rfl cf_11 (g_K123 G) rfl rfl (Nat.le_refl _) ⟨Nat.le_refl _, Nat.le_refl _⟩ (Nat.le_of_ble_eq_true rfl) dX12_rents_28 ?_
      refine X_aload_n 0 dX12_rents_31 rfl rfl rfl ?_
      obtain ⟨q11, e12, hm⟩ := ob hm
      refine X_cV0 (ci := 11) (kX12_laysBack d (by omega) G e12) ml_X12_497 mi_X12_laysBack rfl cf_11 (g_K123 G) rfl rfl (Nat.le_refl _) ⟨Nat.le_refl _, Nat.le_refl _⟩ (Nat.le_of_ble_eq_true rfl) dX12_rents_32 ?_
      refine X_aload_n 0 dX12_rents_35 rfl rfl rfl ?_
      refine X_getPe fl_X12_127 (g_K123 G) rfl (g_P123_48 G) dX12_rents_36 ?_
      refine X_iload_n 1 dX12_rents_39 rfl rfl ?_
      obtain ⟨g13, hm⟩ := og hm
      refine X_ialdJ (g_K161 G) g13 rfl dX12_rents_40 ?_
      replace hm := Option.some.inj hm
      subst hm
      exact X_iret dX12_rents_41 rfl
    · replace hm := ip c6 hm
      refine X_iconst (v := (-1 : Int32)) dX12_rents_20 (by decide) ?_
      replace hm := Option.some.inj hm
      subst hm
      exact X_iret dX12_rents_21 rfl
def mX12_worth  (I : Nat → Nat → Int32) (L : Nat → Nat → Int64) (a1 : Int32) (a2 : Int32) (a3 : Int32) : Option (Int32 × (Nat → Nat → Int32) × (Nat → Nat → Int64)) := (Option.bind (mX12_isCell I a1) (fun q1 => (if q1 = 0 then (some ((-100000 : Int32), I, L)) else (Option.bind (mX12_thingOf I a1) (fun q4 => (Option.bind (mX12_isBare I q4) (fun q6 => (if q6 = 0 then (Option.bind (mX12_isPainter I a2) (fun q9 => (if q9 = 0 then (some ((-100000 : Int32), I, L)) else (Option.bind (mX12_in a3.toInt64 (1 : Int64) (100 : Int64)) (fun q12 => (if q12 = 0 then (some ((-100000 : Int32), I, L)) else (Option.bind (mX12_keepsAll I) (fun q15 => (Option.bind (mX12_paints q15 a1 a2) (fun q17 => (Option.bind (mX12_goes q17 L a3) (fun q19 => (Option.bind (mX12_laysBack q19.1) (fun q21 => (if inb a2 4 = true then (Option.bind (mX12_keepsAll q21) (fun q24 => (Option.bind (mX12_goes q24 q19.2 a3) (fun q26 => (Option.bind (mX12_laysBack q26.1) (fun q28 => (if inb a2 4 = true then (some (((q21 161 (ix a2)) - (q28 161 (ix a2))), q28, q26.2)) else none))))))) else none))))))))))))))) else (some ((-100000 : Int32), I, L))))))))))
set_option maxHeartbeats 400000 in
set_option maxRecDepth 100000 in
theorem kX12_worth {E : xE} {B : Nat} {n : Nat} {K : Nat → Nat × Nat} {P : Nat → Nat → Nat} {I : Nat → Nat → Int32} {L : Nat → Nat → Int64}  {a1 : Int32} {a2 : Int32} {a3 : Int32} {q : Int32 × (Nat → Nat → Int32) × (Nat → Nat → Int64)} (d : Nat) (hd : 8 ≤ d) (G : GW K P)   (hm : mX12_worth I L a1 a2 a3 = some q) : MX E B d 0 0 yX12_worth cX12_worth 5 (some .int) [.ref 123, .int a1, .int a2, .int a3] (n, K, P, I, L) (some (.int q.1), (n, K, P, q.2.1, q.2.2)) := by
  refine MX_of (lv := [(0, .ref 123), (1, .int a1), (2, .int a2), (3, .int a3)]) (by decide +kernel) (Nat.le_of_ble_eq_true rfl) rfl ?_
  obtain ⟨d, rfl⟩ : ∃ d0, d = d0 + 1 := ⟨d - 1, by omega⟩
  unfold mX12_worth at hm
  refine X_aload_n 0 dX12_worth_0 rfl rfl rfl ?_
  refine X_iload_n 1 dX12_worth_1 rfl rfl ?_
  obtain ⟨q1, e2, hm⟩ := ob hm
  refine X_cV1 (ci := 11) (kX12_isCell d (by omega) G e2) ml_X12_405 mi_X12_isCell rfl cf_11 (g_K123 G) rfl rfl (Nat.le_refl _) ⟨Nat.le_refl _, Nat.le_refl _⟩ (Nat.le_of_ble_eq_true rfl) dX12_worth_2 ?_
  refine X_if_eq (tgt := 40) dX12_worth_5 (by decide) (fun c3 => ?_) (fun c3 => ?_)
  · replace hm := ip c3 hm
    refine X_ldc_w lc_X12_500 dX12_worth_40 ?_
    replace hm := Option.some.inj hm
    subst hm
    exact X_iret dX12_worth_43 rfl
  · replace hm := iq c3 hm
    refine X_aload_n 0 dX12_worth_8 rfl rfl rfl ?_
    refine X_aload_n 0 dX12_worth_9 rfl rfl rfl ?_
    refine X_iload_n 1 dX12_worth_10 rfl rfl ?_
    obtain ⟨q4, e5, hm⟩ := ob hm
    refine X_cV1 (ci := 11) (kX12_thingOf d (by omega) G e5) ml_X12_408 mi_X12_thingOf rfl cf_11 (g_K123 G) rfl rfl (Nat.le_refl _) ⟨Nat.le_refl _, Nat.le_refl _⟩ (Nat.le_of_ble_eq_true rfl) dX12_worth_11 ?_
    obtain ⟨q6, e7, hm⟩ := ob hm
    refine X_cV1 (ci := 11) (kX12_isBare d (by omega) G e7) ml_X12_336 mi_X12_isBare rfl cf_11 (g_K123 G) rfl rfl (Nat.le_refl _) ⟨Nat.le_refl _, Nat.le_refl _⟩ (Nat.le_of_ble_eq_true rfl) dX12_worth_14 ?_
    refine X_if_ne (tgt := 40) dX12_worth_17 (by decide) (fun c8 => ?_) (fun c8 => ?_)
    · replace hm := iq c8 hm
      refine X_ldc_w lc_X12_500 dX12_worth_40 ?_
      replace hm := Option.some.inj hm
      subst hm
      exact X_iret dX12_worth_43 rfl
    · replace hm := ip c8 hm
      refine X_aload_n 0 dX12_worth_20 rfl rfl rfl ?_
      refine X_iload_n 2 dX12_worth_21 rfl rfl ?_
      obtain ⟨q9, e10, hm⟩ := ob hm
      refine X_cV1 (ci := 11) (kX12_isPainter d (by omega) G e10) ml_X12_423 mi_X12_isPainter rfl cf_11 (g_K123 G) rfl rfl (Nat.le_refl _) ⟨Nat.le_refl _, Nat.le_refl _⟩ (Nat.le_of_ble_eq_true rfl) dX12_worth_22 ?_
      refine X_if_eq (tgt := 40) dX12_worth_25 (by decide) (fun c11 => ?_) (fun c11 => ?_)
      · replace hm := ip c11 hm
        refine X_ldc_w lc_X12_500 dX12_worth_40 ?_
        replace hm := Option.some.inj hm
        subst hm
        exact X_iret dX12_worth_43 rfl
      · replace hm := iq c11 hm
        refine X_iload_n 3 dX12_worth_28 rfl rfl ?_
        refine X_i2l dX12_worth_29 ?_
        refine X_lconst (v := (1 : Int64)) dX12_worth_30 (by decide) ?_
        refine X_ldc2 lc_X12_489 dX12_worth_31 ?_
        obtain ⟨q12, e13, hm⟩ := ob hm
        refine X_cS1 (kX12_in d (by omega) G e13) ml_X12_164 ms_X12_in rfl rfl (Nat.le_refl _) ⟨Nat.le_refl _, Nat.le_refl _⟩ (Nat.le_of_ble_eq_true rfl) dX12_worth_34 ?_
        refine X_if_ne (tgt := 44) dX12_worth_37 (by decide) (fun c14 => ?_) (fun c14 => ?_)
        · replace hm := iq c14 hm
          refine X_aload_n 0 dX12_worth_44 rfl rfl rfl ?_
          obtain ⟨q15, e16, hm⟩ := ob hm
          refine X_cV0 (ci := 11) (kX12_keepsAll d (by omega) G e16) ml_X12_491 mi_X12_keepsAll rfl cf_11 (g_K123 G) rfl rfl (Nat.le_refl _) ⟨Nat.le_refl _, Nat.le_refl _⟩ (Nat.le_of_ble_eq_true rfl) dX12_worth_45 ?_
          refine X_aload_n 0 dX12_worth_48 rfl rfl rfl ?_
          refine X_iload_n 1 dX12_worth_49 rfl rfl ?_
          refine X_iload_n 2 dX12_worth_50 rfl rfl ?_
          obtain ⟨q17, e18, hm⟩ := ob hm
          refine X_cV0 (ci := 11) (kX12_paints d (by omega) G e18) ml_X12_448 mi_X12_paints rfl cf_11 (g_K123 G) rfl rfl (Nat.le_refl _) ⟨Nat.le_refl _, Nat.le_refl _⟩ (Nat.le_of_ble_eq_true rfl) dX12_worth_51 ?_
          refine X_aload_n 0 dX12_worth_54 rfl rfl rfl ?_
          refine X_iload_n 3 dX12_worth_55 rfl rfl ?_
          obtain ⟨q19, e20, hm⟩ := ob hm
          refine X_cV0 (ci := 11) (kX12_goes d (by omega) G e20) ml_X12_494 mi_X12_goes rfl cf_11 (g_K123 G) rfl rfl (Nat.le_refl _) ⟨Nat.le_refl _, Nat.le_refl _⟩ (Nat.le_of_ble_eq_true rfl) dX12_worth_56 ?_
          refine X_aload_n 0 dX12_worth_59 rfl rfl rfl ?_
          obtain ⟨q21, e22, hm⟩ := ob hm
          refine X_cV0 (ci := 11) (kX12_laysBack d (by omega) G e22) ml_X12_497 mi_X12_laysBack rfl cf_11 (g_K123 G) rfl rfl (Nat.le_refl _) ⟨Nat.le_refl _, Nat.le_refl _⟩ (Nat.le_of_ble_eq_true rfl) dX12_worth_60 ?_
          refine X_aload_n 0 dX12_worth_63 rfl rfl rfl ?_
          refine X_getPe fl_X12_127 (g_K123 G) rfl (g_P123_48 G) dX12_worth_64 ?_
          refine X_iload_n 2 dX12_worth_67 rfl rfl ?_
          obtain ⟨g23, hm⟩ := og hm
          refine X_ialdJ (g_K161 G) g23 rfl dX12_worth_68 ?_
          refine X_istore (lv' := [(4, .int (q21 161 (ix a2))), (0, .ref 123), (1, .int a1), (2, .int a2), (3, .int a3)]) dX12_worth_69 (by decide) rfl ?_
          refine X_aload_n 1 dX12_worth_71 rfl rfl rfl ?_
          obtain ⟨q24, e25, hm⟩ := ob hm
          refine X_cV0 (ci := 11) (kX12_keepsAll d (by omega) G e25) ml_X12_491 mi_X12_keepsAll rfl cf_11 (g_K123 G) rfl rfl (Nat.le_refl _) ⟨Nat.le_refl _, Nat.le_refl _⟩ (Nat.le_of_ble_eq_true rfl) dX12_worth_72 ?_
          refine X_aload_n 1 dX12_worth_75 rfl rfl rfl ?_
          refine X_iload_n 4 dX12_worth_76 rfl rfl ?_
          obtain ⟨q26, e27, hm⟩ := ob hm
          refine X_cV0 (ci := 11) (kX12_goes d (by omega) G e27) ml_X12_494 mi_X12_goes rfl cf_11 (g_K123 G) rfl rfl (Nat.le_refl _) ⟨Nat.le_refl _, Nat.le_refl _⟩ (Nat.le_of_ble_eq_true rfl) dX12_worth_77 ?_
          refine X_aload_n 1 dX12_worth_80 rfl rfl rfl ?_
          obtain ⟨q28, e29, hm⟩ := ob hm
          refine X_cV0 (ci := 11) (kX12_laysBack d (by omega) G e29) ml_X12_497 mi_X12_laysBack rfl cf_11 (g_K123 G) rfl rfl (Nat.le_refl _) ⟨Nat.le_refl _, Nat.le_refl _⟩ (Nat.le_of_ble_eq_true rfl) dX12_worth_81 ?_
          refine X_iload 0 dX12_worth_84 rfl ?_
          refine X_aload_n 1 dX12_worth_86 rfl rfl rfl ?_
          refine X_getPe fl_X12_127 (g_K123 G) rfl (g_P123_48 G) dX12_worth_87 ?_
          refine X_iload_n 3 dX12_worth_90 rfl rfl ?_
          obtain ⟨g30, hm⟩ := og hm
          refine X_ialdJ (g_K161 G) g30 rfl dX12_worth_91 ?_
          refine X_isub dX12_worth_92 ?_
          replace hm := Option.some.inj hm
          subst hm
          exact X_iret dX12_worth_93 rfl
        · replace hm := ip c14 hm
          refine X_ldc_w lc_X12_500 dX12_worth_40 ?_
          replace hm := Option.some.inj hm
          subst hm
          exact X_iret dX12_worth_43 rfl
def mX12_idles_2   : Nat → (Nat → Nat → Int32) → Int32 → Int32 → Option ((Nat → Nat → Int32))
  | 0, _, _, _ => none
  | f + 1, I, a1, a2 => (if a1 ≤ a2 then (some I) else (Option.bind (mX12_ends I) (fun q2 => (mX12_idles_2 f q2 a1 (a2 + 1)))))
set_option maxHeartbeats 400000 in
set_option maxRecDepth 100000 in
theorem kX12_idles_2 {E : xE} {B : Nat} {n : Nat} {K : Nat → Nat × Nat} {P : Nat → Nat → Nat} {L : Nat → Nat → Int64}   {q : (Nat → Nat → Int32)} (d : Nat) (hd : 5 ≤ d) (G : GW K P)   : ∀ (f : Nat) (I : Nat → Nat → Int32) (a1 : Int32) (a2 : Int32), mX12_idles_2 f I a1 a2 = some q → X E B d 0 0 yX12_idles cX12_idles 3 (none : Option Jvm.ClassFile.FieldType) (none, (n, K, P, q, L)) 2 [(0, .ref 123), (1, .int a1), (2, .int a2)] [] 0 0 (n, K, P, I, L) := by
  obtain ⟨d, rfl⟩ : ∃ d0, d = d0 + 1 := ⟨d - 1, by omega⟩
  intro f
  induction f with
  | zero => intro _ _ _ hm; exact nomatch (show (none : Option ((Nat → Nat → Int32))) = some q from hm)
  | succ f ih =>
    intro I a1 a2 hm
    rw [mX12_idles_2] at hm
    refine X_iload_n 2 dX12_idles_2 rfl rfl ?_
    refine X_iload_n 1 dX12_idles_3 rfl rfl ?_
    refine X_icmp_ge (tgt := 17) dX12_idles_4 (by decide) (fun c1 => ?_) (fun c1 => ?_)
    · replace hm := ip c1 hm
      replace hm := Option.some.inj hm
      subst hm
      exact X_vret dX12_idles_17 rfl
    · replace hm := iq c1 hm
      refine X_aload_n 0 dX12_idles_7 rfl rfl rfl ?_
      obtain ⟨q2, e3, hm⟩ := ob hm
      refine X_cV0 (ci := 11) (kX12_ends d (by omega) G e3) ml_X12_457 mi_X12_ends rfl cf_11 (g_K123 G) rfl rfl (Nat.le_refl _) ⟨Nat.le_refl _, Nat.le_refl _⟩ (Nat.le_of_ble_eq_true rfl) dX12_idles_8 ?_
      refine X_iinc (lv' := [(2, .int (a2 + 1)), (0, .ref 123), (1, .int a1)]) 2 dX12_idles_11 rfl rfl (by decide) rfl ?_
      refine X_goto (tgt := 2) dX12_idles_14 (by decide) ?_
      exact X_lv [1, 2, 0] rfl (ih _ _ _ hm)
def mX12_idles  (I : Nat → Nat → Int32) (a1 : Int32) : Option ((Nat → Nat → Int32)) := (mX12_idles_2 xf I a1 (0 : Int32))
set_option maxHeartbeats 400000 in
set_option maxRecDepth 100000 in
theorem kX12_idles {E : xE} {B : Nat} {n : Nat} {K : Nat → Nat × Nat} {P : Nat → Nat → Nat} {I : Nat → Nat → Int32} {L : Nat → Nat → Int64}  {a1 : Int32} {q : (Nat → Nat → Int32)} (d : Nat) (hd : 5 ≤ d) (G : GW K P)   (hm : mX12_idles I a1 = some q) : MX E B d 0 0 yX12_idles cX12_idles 3 (none : Option Jvm.ClassFile.FieldType) [.ref 123, .int a1] (n, K, P, I, L) (none, (n, K, P, q, L)) := by
  refine MX_of (lv := [(0, .ref 123), (1, .int a1)]) (by decide +kernel) (Nat.le_of_ble_eq_true rfl) rfl ?_
  obtain ⟨d, rfl⟩ : ∃ d0, d = d0 + 1 := ⟨d - 1, by omega⟩
  unfold mX12_idles at hm
  refine X_iconst (v := (0 : Int32)) dX12_idles_0 (by decide) ?_
  refine X_istore_n (lv' := [(2, .int (0 : Int32)), (0, .ref 123), (1, .int a1)]) dX12_idles_1 rfl (by decide) rfl ?_
  refine X_lv [1, 2, 0] rfl (kX12_idles_2 _ hd G xf _ _ _  hm)
def mX12_isTheirsBehind_3  (e42 : (Nat → Nat → Int32) → Int32 → Int32 → Int32 → Option (Int32 × (Nat → Nat → Int32))) : Nat → (Nat → Nat → Int32) → Int32 → Int32 → Int32 → Int32 → Int32 → Option (Int32 × (Nat → Nat → Int32))
  | 0, _, _, _, _, _, _ => none
  | f + 1, I, a1, a2, a3, a4, a5 => (Option.bind (mX12_cellsIn I a2) (fun q1 => (if q1 ≤ a5 then (e42 I a1 a2 a4) else (Option.bind (mX12_has a3 a5) (fun q4 => (if q4 = 0 then (mX12_isTheirsBehind_3 e42 f I a1 a2 a3 a4 (a5 + 1)) else (if inb a2 5 = true then (Option.bind (mX12_paints I ((I 125 (ix a2)) + a5) a1) (fun q8 => (mX12_isTheirsBehind_3 e42 f q8 a1 a2 a3 a4 (a5 + 1)))) else none)))))))
set_option maxHeartbeats 400000 in
set_option maxRecDepth 100000 in
theorem kX12_isTheirsBehind_3 {E : xE} {B : Nat} {n : Nat} {K : Nat → Nat × Nat} {P : Nat → Nat → Nat} {L : Nat → Nat → Int64}  {e42 : (Nat → Nat → Int32) → Int32 → Int32 → Int32 → Option (Int32 × (Nat → Nat → Int32))} {q : Int32 × (Nat → Nat → Int32)} (d : Nat) (hd : 6 ≤ d) (G : GW K P)  (he42 : ∀ (I : Nat → Nat → Int32) (a1 : Int32) (a2 : Int32) (a4 : Int32), e42 I a1 a2 a4 = some q → X E B d 0 0 yX12_isTheirsBehind cX12_isTheirsBehind 6 (some .boolean) (some (.int q.1), (n, K, P, q.2, L)) 42 [(0, .ref 123), (1, .int a1), (2, .int a2), (4, .int a4)] [] 0 0 (n, K, P, I, L)) : ∀ (f : Nat) (I : Nat → Nat → Int32) (a1 : Int32) (a2 : Int32) (a3 : Int32) (a4 : Int32) (a5 : Int32), mX12_isTheirsBehind_3 e42 f I a1 a2 a3 a4 a5 = some q → X E B d 0 0 yX12_isTheirsBehind cX12_isTheirsBehind 6 (some .boolean) (some (.int q.1), (n, K, P, q.2, L)) 3 [(0, .ref 123), (1, .int a1), (2, .int a2), (3, .int a3), (4, .int a4), (5, .int a5)] [] 0 0 (n, K, P, I, L) := by
  obtain ⟨d, rfl⟩ : ∃ d0, d = d0 + 1 := ⟨d - 1, by omega⟩
  intro f
  induction f with
  | zero => intro _ _ _ _ _ _ hm; exact nomatch (show (none : Option (Int32 × (Nat → Nat → Int32))) = some q from hm)
  | succ f ih =>
    intro I a1 a2 a3 a4 a5 hm
    rw [mX12_isTheirsBehind_3] at hm
    refine X_iload 5 dX12_isTheirsBehind_3 rfl ?_
    refine X_aload_n 0 dX12_isTheirsBehind_5 rfl rfl rfl ?_
    refine X_iload_n 2 dX12_isTheirsBehind_6 rfl rfl ?_
    obtain ⟨q1, e2, hm⟩ := ob hm
    refine X_cV1 (ci := 11) (kX12_cellsIn d (by omega) G e2) ml_X12_396 mi_X12_cellsIn rfl cf_11 (g_K123 G) rfl rfl (Nat.le_refl _) ⟨Nat.le_refl _, Nat.le_refl _⟩ (Nat.le_of_ble_eq_true rfl) dX12_isTheirsBehind_7 ?_
    refine X_icmp_ge (tgt := 42) dX12_isTheirsBehind_10 (by decide) (fun c3 => ?_) (fun c3 => ?_)
    · replace hm := ip c3 hm
      exact X_lv [0, 1, 2, 4] rfl (he42 _ _ _ _ hm)
    · replace hm := iq c3 hm
      refine X_iload_n 3 dX12_isTheirsBehind_13 rfl rfl ?_
      refine X_iload 5 dX12_isTheirsBehind_14 rfl ?_
      obtain ⟨q4, e5, hm⟩ := ob hm
      refine X_cS1 (kX12_has d (by omega) G e5) ml_X12_382 ms_X12_has rfl rfl (Nat.le_refl _) ⟨Nat.le_refl _, Nat.le_refl _⟩ (Nat.le_of_ble_eq_true rfl) dX12_isTheirsBehind_16 ?_
      refine X_if_eq (tgt := 36) dX12_isTheirsBehind_19 (by decide) (fun c6 => ?_) (fun c6 => ?_)
      · replace hm := ip c6 hm
        refine X_iinc (lv' := [(5, .int (a5 + 1)), (0, .ref 123), (1, .int a1), (2, .int a2), (3, .int a3), (4, .int a4)]) 5 dX12_isTheirsBehind_36 rfl rfl (by decide) rfl ?_
        refine X_goto (tgt := 3) dX12_isTheirsBehind_39 (by decide) ?_
        exact X_lv [1, 2, 3, 4, 5, 0] rfl (ih _ _ _ _ _ _ hm)
      · replace hm := iq c6 hm
        refine X_aload_n 0 dX12_isTheirsBehind_22 rfl rfl rfl ?_
        refine X_aload_n 0 dX12_isTheirsBehind_23 rfl rfl rfl ?_
        refine X_getPe fl_X12_13 (g_K123 G) rfl (g_P123_2 G) dX12_isTheirsBehind_24 ?_
        refine X_iload_n 2 dX12_isTheirsBehind_27 rfl rfl ?_
        obtain ⟨g7, hm⟩ := og hm
        refine X_ialdJ (g_K125 G) g7 rfl dX12_isTheirsBehind_28 ?_
        refine X_iload 5 dX12_isTheirsBehind_29 rfl ?_
        refine X_iadd dX12_isTheirsBehind_31 ?_
        refine X_iload_n 1 dX12_isTheirsBehind_32 rfl rfl ?_
        obtain ⟨q8, e9, hm⟩ := ob hm
        refine X_cV0 (ci := 11) (kX12_paints d (by omega) G e9) ml_X12_448 mi_X12_paints rfl cf_11 (g_K123 G) rfl rfl (Nat.le_refl _) ⟨Nat.le_refl _, Nat.le_refl _⟩ (Nat.le_of_ble_eq_true rfl) dX12_isTheirsBehind_33 ?_
        refine X_iinc (lv' := [(5, .int (a5 + 1)), (0, .ref 123), (1, .int a1), (2, .int a2), (3, .int a3), (4, .int a4)]) 5 dX12_isTheirsBehind_36 rfl rfl (by decide) rfl ?_
        refine X_goto (tgt := 3) dX12_isTheirsBehind_39 (by decide) ?_
        exact X_lv [1, 2, 3, 4, 5, 0] rfl (ih _ _ _ _ _ _ hm)
def mX12_isTheirsBehind_62  (I : Nat → Nat → Int32) (t0 : Int32) : Option (Int32 × (Nat → Nat → Int32)) := (Option.bind (mX12_laysBack I) (fun q16 => (if t0 = 0 ∨ t0 = 1 then (some (t0, q16)) else none)))
set_option maxHeartbeats 400000 in
set_option maxRecDepth 100000 in
theorem kX12_isTheirsBehind_62 {E : xE} {B : Nat} {n : Nat} {K : Nat → Nat × Nat} {P : Nat → Nat → Nat} {I : Nat → Nat → Int32} {L : Nat → Nat → Int64}   {t0 : Int32} {q : Int32 × (Nat → Nat → Int32)} (d : Nat) (hd : 6 ≤ d) (G : GW K P)    (hm : mX12_isTheirsBehind_62 I t0 = some q) : X E B d 0 0 yX12_isTheirsBehind cX12_isTheirsBehind 6 (some .boolean) (some (.int q.1), (n, K, P, q.2, L)) 62 [(0, .ref 123)] [.int t0] 0 0 (n, K, P, I, L) := by
  obtain ⟨d, rfl⟩ : ∃ d0, d = d0 + 1 := ⟨d - 1, by omega⟩
  unfold mX12_isTheirsBehind_62 at hm
  refine X_istore (lv' := [(5, .int t0), (0, .ref 123)]) dX12_isTheirsBehind_62 (by decide) rfl ?_
  refine X_aload_n 1 dX12_isTheirsBehind_64 rfl rfl rfl ?_
  obtain ⟨q16, e17, hm⟩ := ob hm
  refine X_cV0 (ci := 11) (kX12_laysBack d (by omega) G e17) ml_X12_497 mi_X12_laysBack rfl cf_11 (g_K123 G) rfl rfl (Nat.le_refl _) ⟨Nat.le_refl _, Nat.le_refl _⟩ (Nat.le_of_ble_eq_true rfl) dX12_isTheirsBehind_65 ?_
  refine X_iload 0 dX12_isTheirsBehind_68 rfl ?_
  obtain ⟨g18, hm⟩ := og hm
  replace hm := Option.some.inj hm
  subst hm
  exact X_zret dX12_isTheirsBehind_70 rfl (x_nz g18)
def mX12_isTheirsBehind  (I : Nat → Nat → Int32) (a1 : Int32) (a2 : Int32) (a3 : Int32) (a4 : Int32) : Option (Int32 × (Nat → Nat → Int32)) := (mX12_isTheirsBehind_3 (fun (I_10 : (Nat → Nat → Int32)) (a1_10 : Int32) (a2_10 : Int32) (a4_10 : Int32) => (Option.bind (mX12_idles I_10 a4_10) (fun q11 => (Option.bind (mX12_thingOwner q11 a2_10) (fun q13 => (if q13.1 = a1_10 then (mX12_isTheirsBehind_62 q13.2 (1 : Int32)) else (mX12_isTheirsBehind_62 q13.2 (0 : Int32)))))))) xf I a1 a2 a3 a4 (0 : Int32))
set_option maxHeartbeats 400000 in
set_option maxRecDepth 100000 in
theorem kX12_isTheirsBehind {E : xE} {B : Nat} {n : Nat} {K : Nat → Nat × Nat} {P : Nat → Nat → Nat} {I : Nat → Nat → Int32} {L : Nat → Nat → Int64}  {a1 : Int32} {a2 : Int32} {a3 : Int32} {a4 : Int32} {q : Int32 × (Nat → Nat → Int32)} (d : Nat) (hd : 6 ≤ d) (G : GW K P)   (hm : mX12_isTheirsBehind I a1 a2 a3 a4 = some q) : MX E B d 0 0 yX12_isTheirsBehind cX12_isTheirsBehind 6 (some .boolean) [.ref 123, .int a1, .int a2, .int a3, .int a4] (n, K, P, I, L) (some (.int q.1), (n, K, P, q.2, L)) := by
  refine MX_of (lv := [(0, .ref 123), (1, .int a1), (2, .int a2), (3, .int a3), (4, .int a4)]) (by decide +kernel) (Nat.le_of_ble_eq_true rfl) rfl ?_
  obtain ⟨d, rfl⟩ : ∃ d0, d = d0 + 1 := ⟨d - 1, by omega⟩
  unfold mX12_isTheirsBehind at hm
  refine X_iconst (v := (0 : Int32)) dX12_isTheirsBehind_0 (by decide) ?_
  refine X_istore (lv' := [(5, .int (0 : Int32)), (0, .ref 123), (1, .int a1), (2, .int a2), (3, .int a3), (4, .int a4)]) dX12_isTheirsBehind_1 (by decide) rfl ?_
  refine X_lv [1, 2, 3, 4, 5, 0] rfl (kX12_isTheirsBehind_3 _ hd G (fun I_10 a1_10 a2_10 a4_10 hm => ?_) xf _ _ _ _ _ _  hm)
  refine X_aload_n 0 dX12_isTheirsBehind_42 rfl rfl rfl ?_
  refine X_iload 3 dX12_isTheirsBehind_43 rfl ?_
  obtain ⟨q11, e12, hm⟩ := ob hm
  refine X_cV0 (ci := 11) (kX12_idles d (by omega) G e12) ml_X12_501 mi_X12_idles rfl cf_11 (g_K123 G) rfl rfl (Nat.le_refl _) ⟨Nat.le_refl _, Nat.le_refl _⟩ (Nat.le_of_ble_eq_true rfl) dX12_isTheirsBehind_45 ?_
  refine X_aload_n 0 dX12_isTheirsBehind_48 rfl rfl rfl ?_
  refine X_iload_n 2 dX12_isTheirsBehind_49 rfl rfl ?_
  obtain ⟨q13, e14, hm⟩ := ob hm
  refine X_cV1 (ci := 11) (kX12_thingOwner d (by omega) G e14) ml_X12_420 mi_X12_thingOwner rfl cf_11 (g_K123 G) rfl rfl (Nat.le_refl _) ⟨Nat.le_refl _, Nat.le_refl _⟩ (Nat.le_of_ble_eq_true rfl) dX12_isTheirsBehind_50 ?_
  refine X_iload_n 1 dX12_isTheirsBehind_53 rfl rfl ?_
  refine X_icmp_ne (tgt := 61) dX12_isTheirsBehind_54 (by decide) (fun c15 => ?_) (fun c15 => ?_)
  · replace hm := iq c15 hm
    refine X_iconst (v := (0 : Int32)) dX12_isTheirsBehind_61 (by decide) ?_
    exact X_lv [0] rfl (kX12_isTheirsBehind_62 _ hd G hm)
  · replace hm := ip c15 hm
    refine X_iconst (v := (1 : Int32)) dX12_isTheirsBehind_57 (by decide) ?_
    refine X_goto (tgt := 62) dX12_isTheirsBehind_58 (by decide) ?_
    exact X_lv [0] rfl (kX12_isTheirsBehind_62 _ hd G hm)
def mX12_least_92 (b60 : (Nat → Nat → Int32) → Int32 → Int32 → Int32 → Int32 → Int32 → Int32 → Option (Int32 × (Nat → Nat → Int32))) (e114 : (Nat → Nat → Int32) → Int32 → Int32 → Option (Int32 × (Nat → Nat → Int32))) (I : Nat → Nat → Int32) (a1 : Int32) (a2 : Int32) (a3 : Int32) (a4 : Int32) (a5 : Int32) (a6 : Int32) : Option (Int32 × (Nat → Nat → Int32)) := (Option.bind (mX12_isTheirsBehind I a1 a2 a6 a3) (fun q22 => (if q22.1 = 0 then (b60 q22.2 a1 a2 a3 a4 a5 (a6 + 1)) else (b60 q22.2 a1 a2 a3 a4 a6 (a6 + 1)))))
set_option maxHeartbeats 400000 in
set_option maxRecDepth 100000 in
theorem kX12_least_92 {E : xE} {B : Nat} {n : Nat} {K : Nat → Nat × Nat} {P : Nat → Nat → Nat} {I : Nat → Nat → Int32} {L : Nat → Nat → Int64}  {b60 : (Nat → Nat → Int32) → Int32 → Int32 → Int32 → Int32 → Int32 → Int32 → Option (Int32 × (Nat → Nat → Int32))} {e114 : (Nat → Nat → Int32) → Int32 → Int32 → Option (Int32 × (Nat → Nat → Int32))} {a1 : Int32} {a2 : Int32} {a3 : Int32} {a4 : Int32} {a5 : Int32} {a6 : Int32} {q : Int32 × (Nat → Nat → Int32)} (d : Nat) (hd : 7 ≤ d) (G : GW K P)  (hb60 : ∀ (I : Nat → Nat → Int32) (a1 : Int32) (a2 : Int32) (a3 : Int32) (a4 : Int32) (a5 : Int32) (a6 : Int32), b60 I a1 a2 a3 a4 a5 a6 = some q → X E B d 0 0 yX12_least cX12_least 7 (some .int) (some (.int q.1), (n, K, P, q.2, L)) 60 [(0, .ref 123), (1, .int a1), (2, .int a2), (3, .int a3), (4, .int a4), (5, .int a5), (6, .int a6)] [] 0 0 (n, K, P, I, L)) (he114 : ∀ (I : Nat → Nat → Int32) (a4 : Int32) (a5 : Int32), e114 I a4 a5 = some q → X E B d 0 0 yX12_least cX12_least 7 (some .int) (some (.int q.1), (n, K, P, q.2, L)) 114 [(4, .int a4), (5, .int a5)] [] 0 0 (n, K, P, I, L))  (hm : mX12_least_92 b60 e114 I a1 a2 a3 a4 a5 a6 = some q) : X E B d 0 0 yX12_least cX12_least 7 (some .int) (some (.int q.1), (n, K, P, q.2, L)) 92 [(0, .ref 123), (1, .int a1), (2, .int a2), (3, .int a3), (4, .int a4), (5, .int a5), (6, .int a6)] [] 0 0 (n, K, P, I, L) := by
  obtain ⟨d, rfl⟩ : ∃ d0, d = d0 + 1 := ⟨d - 1, by omega⟩
  unfold mX12_least_92 at hm
  refine X_aload_n 0 dX12_least_92 rfl rfl rfl ?_
  refine X_iload_n 1 dX12_least_93 rfl rfl ?_
  refine X_iload_n 2 dX12_least_94 rfl rfl ?_
  refine X_iload 6 dX12_least_95 rfl ?_
  refine X_iload_n 3 dX12_least_97 rfl rfl ?_
  obtain ⟨q22, e23, hm⟩ := ob hm
  refine X_cV1 (ci := 11) (kX12_isTheirsBehind d (by omega) G e23) ml_X12_509 mi_X12_isTheirsBehind rfl cf_11 (g_K123 G) rfl rfl (Nat.le_refl _) ⟨Nat.le_refl _, Nat.le_refl _⟩ (Nat.le_of_ble_eq_true rfl) dX12_least_98 ?_
  refine X_if_eq (tgt := 108) dX12_least_101 (by decide) (fun c24 => ?_) (fun c24 => ?_)
  · replace hm := ip c24 hm
    refine X_iinc (lv' := [(6, .int (a6 + 1)), (0, .ref 123), (1, .int a1), (2, .int a2), (3, .int a3), (4, .int a4), (5, .int a5)]) 6 dX12_least_108 rfl rfl (by decide) rfl ?_
    refine X_goto (tgt := 60) dX12_least_111 (by decide) ?_
    exact X_lv [1, 2, 3, 4, 5, 6, 0] rfl (hb60 _ _ _ _ _ _ _ hm)
  · replace hm := iq c24 hm
    refine X_iload 6 dX12_least_104 rfl ?_
    refine X_istore (lv' := [(5, .int a6), (0, .ref 123), (1, .int a1), (2, .int a2), (3, .int a3), (4, .int a4), (6, .int a6)]) dX12_least_106 (by decide) rfl ?_
    refine X_iinc (lv' := [(6, .int (a6 + 1)), (5, .int a6), (0, .ref 123), (1, .int a1), (2, .int a2), (3, .int a3), (4, .int a4)]) 6 dX12_least_108 rfl rfl (by decide) rfl ?_
    refine X_goto (tgt := 60) dX12_least_111 (by decide) ?_
    exact X_lv [2, 3, 4, 5, 6, 1, 0] rfl (hb60 _ _ _ _ _ _ _ hm)
def mX12_least_60  (e114 : (Nat → Nat → Int32) → Int32 → Int32 → Option (Int32 × (Nat → Nat → Int32))) : Nat → (Nat → Nat → Int32) → Int32 → Int32 → Int32 → Int32 → Int32 → Int32 → Option (Int32 × (Nat → Nat → Int32))
  | 0, _, _, _, _, _, _, _ => none
  | f + 1, I, a1, a2, a3, a4, a5, a6 => (Option.bind (mX12_cellsIn I a2) (fun q18 => (if (xshl (1 : Int32) q18) ≤ a6 then (e114 I a4 a5) else (if a5 = (-2 : Int32) then (mX12_least_92 (fun (I : Nat → Nat → Int32) (a1 : Int32) (a2 : Int32) (a3 : Int32) (a4 : Int32) (a5 : Int32) (a6 : Int32) => mX12_least_60 e114 f I a1 a2 a3 a4 a5 a6) e114 I a1 a2 a3 a4 a5 a6) else (Option.bind (mX12_bits a6) (fun q25 => (Option.bind (mX12_bits a5) (fun q27 => (if q27 ≤ q25 then (mX12_least_60 e114 f I a1 a2 a3 a4 a5 (a6 + 1)) else (mX12_least_92 (fun (I : Nat → Nat → Int32) (a1 : Int32) (a2 : Int32) (a3 : Int32) (a4 : Int32) (a5 : Int32) (a6 : Int32) => mX12_least_60 e114 f I a1 a2 a3 a4 a5 a6) e114 I a1 a2 a3 a4 a5 a6))))))))))
set_option maxHeartbeats 400000 in
set_option maxRecDepth 100000 in
theorem kX12_least_60 {E : xE} {B : Nat} {n : Nat} {K : Nat → Nat × Nat} {P : Nat → Nat → Nat} {L : Nat → Nat → Int64}  {e114 : (Nat → Nat → Int32) → Int32 → Int32 → Option (Int32 × (Nat → Nat → Int32))} {q : Int32 × (Nat → Nat → Int32)} (d : Nat) (hd : 7 ≤ d) (G : GW K P)  (he114 : ∀ (I : Nat → Nat → Int32) (a4 : Int32) (a5 : Int32), e114 I a4 a5 = some q → X E B d 0 0 yX12_least cX12_least 7 (some .int) (some (.int q.1), (n, K, P, q.2, L)) 114 [(4, .int a4), (5, .int a5)] [] 0 0 (n, K, P, I, L)) : ∀ (f : Nat) (I : Nat → Nat → Int32) (a1 : Int32) (a2 : Int32) (a3 : Int32) (a4 : Int32) (a5 : Int32) (a6 : Int32), mX12_least_60 e114 f I a1 a2 a3 a4 a5 a6 = some q → X E B d 0 0 yX12_least cX12_least 7 (some .int) (some (.int q.1), (n, K, P, q.2, L)) 60 [(0, .ref 123), (1, .int a1), (2, .int a2), (3, .int a3), (4, .int a4), (5, .int a5), (6, .int a6)] [] 0 0 (n, K, P, I, L) := by
  obtain ⟨d, rfl⟩ : ∃ d0, d = d0 + 1 := ⟨d - 1, by omega⟩
  intro f
  induction f with
  | zero => intro _ _ _ _ _ _ _ hm; exact nomatch (show (none : Option (Int32 × (Nat → Nat → Int32))) = some q from hm)
  | succ f ih =>
    intro I a1 a2 a3 a4 a5 a6 hm
    rw [mX12_least_60] at hm
    refine X_iload 6 dX12_least_60 rfl ?_
    refine X_iconst (v := (1 : Int32)) dX12_least_62 (by decide) ?_
    refine X_aload_n 0 dX12_least_63 rfl rfl rfl ?_
    refine X_iload_n 2 dX12_least_64 rfl rfl ?_
    obtain ⟨q18, e19, hm⟩ := ob hm
    refine X_cV1 (ci := 11) (kX12_cellsIn d (by omega) G e19) ml_X12_396 mi_X12_cellsIn rfl cf_11 (g_K123 G) rfl rfl (Nat.le_refl _) ⟨Nat.le_refl _, Nat.le_refl _⟩ (Nat.le_of_ble_eq_true rfl) dX12_least_65 ?_
    refine X_ishl dX12_least_68 ?_
    refine X_icmp_ge (tgt := 114) dX12_least_69 (by decide) (fun c20 => ?_) (fun c20 => ?_)
    · replace hm := ip c20 hm
      exact X_lv [4, 5] rfl (he114 _ _ _ hm)
    · replace hm := iq c20 hm
      refine X_iload 5 dX12_least_72 rfl ?_
      refine X_bipush (v := (-2 : Int32)) dX12_least_74 (by decide) ?_
      refine X_icmp_eq (tgt := 92) dX12_least_76 (by decide) (fun c21 => ?_) (fun c21 => ?_)
      · replace hm := ip c21 hm
        exact kX12_least_92 _ hd G ih he114 hm
      · replace hm := iq c21 hm
        refine X_iload 6 dX12_least_79 rfl ?_
        obtain ⟨q25, e26, hm⟩ := ob hm
        refine X_cS1 (kX12_bits d (by omega) G e26) ml_X12_506 ms_X12_bits rfl rfl (Nat.le_refl _) ⟨Nat.le_refl _, Nat.le_refl _⟩ (Nat.le_of_ble_eq_true rfl) dX12_least_81 ?_
        refine X_iload 5 dX12_least_84 rfl ?_
        obtain ⟨q27, e28, hm⟩ := ob hm
        refine X_cS1 (kX12_bits d (by omega) G e28) ml_X12_506 ms_X12_bits rfl rfl (Nat.le_refl _) ⟨Nat.le_refl _, Nat.le_refl _⟩ (Nat.le_of_ble_eq_true rfl) dX12_least_86 ?_
        refine X_icmp_ge (tgt := 108) dX12_least_89 (by decide) (fun c29 => ?_) (fun c29 => ?_)
        · replace hm := ip c29 hm
          refine X_iinc (lv' := [(6, .int (a6 + 1)), (0, .ref 123), (1, .int a1), (2, .int a2), (3, .int a3), (4, .int a4), (5, .int a5)]) 6 dX12_least_108 rfl rfl (by decide) rfl ?_
          refine X_goto (tgt := 60) dX12_least_111 (by decide) ?_
          exact X_lv [1, 2, 3, 4, 5, 6, 0] rfl (ih _ _ _ _ _ _ _ hm)
        · replace hm := iq c29 hm
          exact kX12_least_92 _ hd G ih he114 hm
def mX12_least  (I : Nat → Nat → Int32) (a1 : Int32) (a2 : Int32) (a3 : Int32) (a4 : Int32) : Option (Int32 × (Nat → Nat → Int32)) := (Option.bind (mX12_isPainter I a1) (fun q1 => (if q1 = 0 then (some ((-1 : Int32), I)) else (Option.bind (mX12_isThing I a2) (fun q4 => (if q4 = 0 then (some ((-1 : Int32), I)) else (Option.bind (mX12_isBare I a2) (fun q7 => (if q7 = 0 then (Option.bind (mX12_in a3.toInt64 (0 : Int64) (60 : Int64)) (fun q10 => (if q10 = 0 then (some ((-1 : Int32), I)) else (Option.bind (mX12_in a4.toInt64 (0 : Int64) (1 : Int64)) (fun q13 => (if q13 = 0 then (some ((-1 : Int32), I)) else (Option.bind (mX12_keepsAll I) (fun q16 => (mX12_least_60 (fun (I_30 : (Nat → Nat → Int32)) (a4_30 : Int32) (a5_30 : Int32) => (if a5_30 = (-2 : Int32) then (some (a5_30, I_30)) else (if a4_30 = (1 : Int32) then (some (a5_30, I_30)) else (Option.bind (mX12_bits a5_30) (fun q33 => (some (q33, I_30))))))) xf q16 a1 a2 a3 a4 (-2 : Int32) (0 : Int32)))))))))) else (some ((-1 : Int32), I)))))))))))
set_option maxHeartbeats 400000 in
set_option maxRecDepth 100000 in
theorem kX12_least {E : xE} {B : Nat} {n : Nat} {K : Nat → Nat × Nat} {P : Nat → Nat → Nat} {I : Nat → Nat → Int32} {L : Nat → Nat → Int64}  {a1 : Int32} {a2 : Int32} {a3 : Int32} {a4 : Int32} {q : Int32 × (Nat → Nat → Int32)} (d : Nat) (hd : 7 ≤ d) (G : GW K P)   (hm : mX12_least I a1 a2 a3 a4 = some q) : MX E B d 0 0 yX12_least cX12_least 7 (some .int) [.ref 123, .int a1, .int a2, .int a3, .int a4] (n, K, P, I, L) (some (.int q.1), (n, K, P, q.2, L)) := by
  refine MX_of (lv := [(0, .ref 123), (1, .int a1), (2, .int a2), (3, .int a3), (4, .int a4)]) (by decide +kernel) (Nat.le_of_ble_eq_true rfl) rfl ?_
  obtain ⟨d, rfl⟩ : ∃ d0, d = d0 + 1 := ⟨d - 1, by omega⟩
  unfold mX12_least at hm
  refine X_aload_n 0 dX12_least_0 rfl rfl rfl ?_
  refine X_iload_n 1 dX12_least_1 rfl rfl ?_
  obtain ⟨q1, e2, hm⟩ := ob hm
  refine X_cV1 (ci := 11) (kX12_isPainter d (by omega) G e2) ml_X12_423 mi_X12_isPainter rfl cf_11 (g_K123 G) rfl rfl (Nat.le_refl _) ⟨Nat.le_refl _, Nat.le_refl _⟩ (Nat.le_of_ble_eq_true rfl) dX12_least_2 ?_
  refine X_if_eq (tgt := 47) dX12_least_5 (by decide) (fun c3 => ?_) (fun c3 => ?_)
  · replace hm := ip c3 hm
    refine X_iconst (v := (-1 : Int32)) dX12_least_47 (by decide) ?_
    replace hm := Option.some.inj hm
    subst hm
    exact X_iret dX12_least_48 rfl
  · replace hm := iq c3 hm
    refine X_aload_n 0 dX12_least_8 rfl rfl rfl ?_
    refine X_iload_n 2 dX12_least_9 rfl rfl ?_
    obtain ⟨q4, e5, hm⟩ := ob hm
    refine X_cV1 (ci := 11) (kX12_isThing d (by omega) G e5) ml_X12_417 mi_X12_isThing rfl cf_11 (g_K123 G) rfl rfl (Nat.le_refl _) ⟨Nat.le_refl _, Nat.le_refl _⟩ (Nat.le_of_ble_eq_true rfl) dX12_least_10 ?_
    refine X_if_eq (tgt := 47) dX12_least_13 (by decide) (fun c6 => ?_) (fun c6 => ?_)
    · replace hm := ip c6 hm
      refine X_iconst (v := (-1 : Int32)) dX12_least_47 (by decide) ?_
      replace hm := Option.some.inj hm
      subst hm
      exact X_iret dX12_least_48 rfl
    · replace hm := iq c6 hm
      refine X_aload_n 0 dX12_least_16 rfl rfl rfl ?_
      refine X_iload_n 2 dX12_least_17 rfl rfl ?_
      obtain ⟨q7, e8, hm⟩ := ob hm
      refine X_cV1 (ci := 11) (kX12_isBare d (by omega) G e8) ml_X12_336 mi_X12_isBare rfl cf_11 (g_K123 G) rfl rfl (Nat.le_refl _) ⟨Nat.le_refl _, Nat.le_refl _⟩ (Nat.le_of_ble_eq_true rfl) dX12_least_18 ?_
      refine X_if_ne (tgt := 47) dX12_least_21 (by decide) (fun c9 => ?_) (fun c9 => ?_)
      · replace hm := iq c9 hm
        refine X_iconst (v := (-1 : Int32)) dX12_least_47 (by decide) ?_
        replace hm := Option.some.inj hm
        subst hm
        exact X_iret dX12_least_48 rfl
      · replace hm := ip c9 hm
        refine X_iload_n 3 dX12_least_24 rfl rfl ?_
        refine X_i2l dX12_least_25 ?_
        refine X_lconst (v := (0 : Int64)) dX12_least_26 (by decide) ?_
        refine X_ldc2 lc_X12_504 dX12_least_27 ?_
        obtain ⟨q10, e11, hm⟩ := ob hm
        refine X_cS1 (kX12_in d (by omega) G e11) ml_X12_164 ms_X12_in rfl rfl (Nat.le_refl _) ⟨Nat.le_refl _, Nat.le_refl _⟩ (Nat.le_of_ble_eq_true rfl) dX12_least_30 ?_
        refine X_if_eq (tgt := 47) dX12_least_33 (by decide) (fun c12 => ?_) (fun c12 => ?_)
        · replace hm := ip c12 hm
          refine X_iconst (v := (-1 : Int32)) dX12_least_47 (by decide) ?_
          replace hm := Option.some.inj hm
          subst hm
          exact X_iret dX12_least_48 rfl
        · replace hm := iq c12 hm
          refine X_iload 4 dX12_least_36 rfl ?_
          refine X_i2l dX12_least_38 ?_
          refine X_lconst (v := (0 : Int64)) dX12_least_39 (by decide) ?_
          refine X_lconst (v := (1 : Int64)) dX12_least_40 (by decide) ?_
          obtain ⟨q13, e14, hm⟩ := ob hm
          refine X_cS1 (kX12_in d (by omega) G e14) ml_X12_164 ms_X12_in rfl rfl (Nat.le_refl _) ⟨Nat.le_refl _, Nat.le_refl _⟩ (Nat.le_of_ble_eq_true rfl) dX12_least_41 ?_
          refine X_if_ne (tgt := 49) dX12_least_44 (by decide) (fun c15 => ?_) (fun c15 => ?_)
          · replace hm := iq c15 hm
            refine X_bipush (v := (-2 : Int32)) dX12_least_49 (by decide) ?_
            refine X_istore (lv' := [(5, .int (-2 : Int32)), (0, .ref 123), (1, .int a1), (2, .int a2), (3, .int a3), (4, .int a4)]) dX12_least_51 (by decide) rfl ?_
            refine X_aload_n 1 dX12_least_53 rfl rfl rfl ?_
            obtain ⟨q16, e17, hm⟩ := ob hm
            refine X_cV0 (ci := 11) (kX12_keepsAll d (by omega) G e17) ml_X12_491 mi_X12_keepsAll rfl cf_11 (g_K123 G) rfl rfl (Nat.le_refl _) ⟨Nat.le_refl _, Nat.le_refl _⟩ (Nat.le_of_ble_eq_true rfl) dX12_least_54 ?_
            refine X_iconst (v := (0 : Int32)) dX12_least_57 (by decide) ?_
            refine X_istore (lv' := [(6, .int (0 : Int32)), (5, .int (-2 : Int32)), (0, .ref 123), (1, .int a1), (2, .int a2), (3, .int a3), (4, .int a4)]) dX12_least_58 (by decide) rfl ?_
            refine X_lv [2, 3, 4, 5, 6, 1, 0] rfl (kX12_least_60 _ hd G (fun I_30 a4_30 a5_30 hm => ?_) xf _ _ _ _ _ _ _  hm)
            refine X_iload 1 dX12_least_114 rfl ?_
            refine X_bipush (v := (-2 : Int32)) dX12_least_116 (by decide) ?_
            refine X_icmp_eq (tgt := 127) dX12_least_118 (by decide) (fun c31 => ?_) (fun c31 => ?_)
            · replace hm := ip c31 hm
              refine X_iload 1 dX12_least_127 rfl ?_
              refine X_goto (tgt := 137) dX12_least_129 (by decide) ?_
              replace hm := Option.some.inj hm
              subst hm
              exact X_iret dX12_least_137 rfl
            · replace hm := iq c31 hm
              refine X_iload 0 dX12_least_121 rfl ?_
              refine X_iconst (v := (1 : Int32)) dX12_least_123 (by decide) ?_
              refine X_icmp_ne (tgt := 132) dX12_least_124 (by decide) (fun c32 => ?_) (fun c32 => ?_)
              · replace hm := iq c32 hm
                refine X_iload 1 dX12_least_132 rfl ?_
                obtain ⟨q33, e34, hm⟩ := ob hm
                refine X_cS1 (kX12_bits d (by omega) G e34) ml_X12_506 ms_X12_bits rfl rfl (Nat.le_refl _) ⟨Nat.le_refl _, Nat.le_refl _⟩ (Nat.le_of_ble_eq_true rfl) dX12_least_134 ?_
                replace hm := Option.some.inj hm
                subst hm
                exact X_iret dX12_least_137 rfl
              · replace hm := ip c32 hm
                refine X_iload 1 dX12_least_127 rfl ?_
                refine X_goto (tgt := 137) dX12_least_129 (by decide) ?_
                replace hm := Option.some.inj hm
                subst hm
                exact X_iret dX12_least_137 rfl
          · replace hm := ip c15 hm
            refine X_iconst (v := (-1 : Int32)) dX12_least_47 (by decide) ?_
            replace hm := Option.some.inj hm
            subst hm
            exact X_iret dX12_least_48 rfl
def mX12_isNextRow_8  (e34 : (Nat → Nat → Int32) → Int32 → Option (Int32 × (Nat → Nat → Int32))) : Nat → (Nat → Nat → Int32) → Int32 → Int32 → Option (Int32 × (Nat → Nat → Int32))
  | 0, _, _, _ => none
  | f + 1, I, a1, a2 => (if a2 < 0 then (some ((0 : Int32), I)) else (if inb a2 6 = true then (if inb a1 5 = true then (if inb ((I 125 (ix a1)) + a2) 16 = true then (if (I 131 (ix ((I 125 (ix a1)) + a2))) ≤ (I 164 (ix a2)) then (if inb a2 6 = true then (mX12_isNextRow_8 e34 f (xu I 164 (ix a2) (0 : Int32)) a1 (a2 + (-1))) else none) else (e34 I a2)) else none) else none) else none))
set_option maxHeartbeats 400000 in
set_option maxRecDepth 100000 in
theorem kX12_isNextRow_8 {E : xE} {B : Nat} {n : Nat} {K : Nat → Nat × Nat} {P : Nat → Nat → Nat} {L : Nat → Nat → Int64}  {e34 : (Nat → Nat → Int32) → Int32 → Option (Int32 × (Nat → Nat → Int32))} {q : Int32 × (Nat → Nat → Int32)} (d : Nat) (hd : 1 ≤ d) (G : GW K P)  (he34 : ∀ (I : Nat → Nat → Int32) (a2 : Int32), e34 I a2 = some q → X E B d 0 0 yX12_isNextRow cX12_isNextRow 3 (some .boolean) (some (.int q.1), (n, K, P, q.2, L)) 34 [(0, .ref 123), (2, .int a2)] [] 0 0 (n, K, P, I, L)) : ∀ (f : Nat) (I : Nat → Nat → Int32) (a1 : Int32) (a2 : Int32), mX12_isNextRow_8 e34 f I a1 a2 = some q → X E B d 0 0 yX12_isNextRow cX12_isNextRow 3 (some .boolean) (some (.int q.1), (n, K, P, q.2, L)) 8 [(0, .ref 123), (1, .int a1), (2, .int a2)] [] 0 0 (n, K, P, I, L) := by
  obtain ⟨d, rfl⟩ : ∃ d0, d = d0 + 1 := ⟨d - 1, by omega⟩
  intro f
  induction f with
  | zero => intro _ _ _ hm; exact nomatch (show (none : Option (Int32 × (Nat → Nat → Int32))) = some q from hm)
  | succ f ih =>
    intro I a1 a2 hm
    rw [mX12_isNextRow_8] at hm
    refine X_iload_n 2 dX12_isNextRow_8 rfl rfl ?_
    refine X_if_lt (tgt := 59) dX12_isNextRow_9 (by decide) (fun c3 => ?_) (fun c3 => ?_)
    · replace hm := ip c3 hm
      refine X_iconst (v := (0 : Int32)) dX12_isNextRow_59 (by decide) ?_
      replace hm := Option.some.inj hm
      subst hm
      exact X_zret (v := (0 : Int32)) dX12_isNextRow_60 rfl (x_nz (Or.inl rfl))
    · replace hm := iq c3 hm
      refine X_aload_n 0 dX12_isNextRow_12 rfl rfl rfl ?_
      refine X_getPe fl_X12_136 (g_K123 G) rfl (g_P123_54 G) dX12_isNextRow_13 ?_
      refine X_iload_n 2 dX12_isNextRow_16 rfl rfl ?_
      obtain ⟨g4, hm⟩ := og hm
      refine X_ialdJ (g_K164 G) g4 rfl dX12_isNextRow_17 ?_
      refine X_aload_n 0 dX12_isNextRow_18 rfl rfl rfl ?_
      refine X_getPe fl_X12_31 (g_K123 G) rfl (g_P123_8 G) dX12_isNextRow_19 ?_
      refine X_aload_n 0 dX12_isNextRow_22 rfl rfl rfl ?_
      refine X_getPe fl_X12_13 (g_K123 G) rfl (g_P123_2 G) dX12_isNextRow_23 ?_
      refine X_iload_n 1 dX12_isNextRow_26 rfl rfl ?_
      obtain ⟨g5, hm⟩ := og hm
      refine X_ialdJ (g_K125 G) g5 rfl dX12_isNextRow_27 ?_
      refine X_iload_n 2 dX12_isNextRow_28 rfl rfl ?_
      refine X_iadd dX12_isNextRow_29 ?_
      obtain ⟨g6, hm⟩ := og hm
      refine X_ialdJ (g_K131 G) g6 rfl dX12_isNextRow_30 ?_
      refine X_icmp_ge (tgt := 46) dX12_isNextRow_31 (by decide) (fun c7 => ?_) (fun c7 => ?_)
      · replace hm := ip c7 hm
        refine X_aload_n 0 dX12_isNextRow_46 rfl rfl rfl ?_
        refine X_getPe fl_X12_136 (g_K123 G) rfl (g_P123_54 G) dX12_isNextRow_47 ?_
        refine X_iload_n 2 dX12_isNextRow_50 rfl rfl ?_
        refine X_iconst (v := (0 : Int32)) dX12_isNextRow_51 (by decide) ?_
        obtain ⟨g8, hm⟩ := og hm
        refine X_iastJ (g_K164 G) g8 rfl dX12_isNextRow_52 ?_
        refine X_iinc (lv' := [(2, .int (a2 + (-1))), (0, .ref 123), (1, .int a1)]) 2 dX12_isNextRow_53 rfl rfl (by decide) rfl ?_
        refine X_goto (tgt := 8) dX12_isNextRow_56 (by decide) ?_
        exact X_lv [1, 2, 0] rfl (ih _ _ _ hm)
      · replace hm := iq c7 hm
        exact X_lv [0, 2] rfl (he34 _ _ hm)
def mX12_isNextRow  (I : Nat → Nat → Int32) (a1 : Int32) : Option (Int32 × (Nat → Nat → Int32)) := (Option.bind (mX12_cellsIn I a1) (fun q1 => (mX12_isNextRow_8 (fun (I_9 : (Nat → Nat → Int32)) (a2_9 : Int32) => (if inb a2_9 6 = true then (if inb a2_9 6 = true then (some ((1 : Int32), (xu I_9 164 (ix a2_9) ((I_9 164 (ix a2_9)) + (1 : Int32))))) else none) else none)) xf I a1 (q1 - (1 : Int32)))))
set_option maxHeartbeats 400000 in
set_option maxRecDepth 100000 in
theorem kX12_isNextRow {E : xE} {B : Nat} {n : Nat} {K : Nat → Nat × Nat} {P : Nat → Nat → Nat} {I : Nat → Nat → Int32} {L : Nat → Nat → Int64}  {a1 : Int32} {q : Int32 × (Nat → Nat → Int32)} (d : Nat) (hd : 1 ≤ d) (G : GW K P)   (hm : mX12_isNextRow I a1 = some q) : MX E B d 0 0 yX12_isNextRow cX12_isNextRow 3 (some .boolean) [.ref 123, .int a1] (n, K, P, I, L) (some (.int q.1), (n, K, P, q.2, L)) := by
  refine MX_of (lv := [(0, .ref 123), (1, .int a1)]) (by decide +kernel) (Nat.le_of_ble_eq_true rfl) rfl ?_
  obtain ⟨d, rfl⟩ : ∃ d0, d = d0 + 1 := ⟨d - 1, by omega⟩
  unfold mX12_isNextRow at hm
  refine X_aload_n 0 dX12_isNextRow_0 rfl rfl rfl ?_
  refine X_iload_n 1 dX12_isNextRow_1 rfl rfl ?_
  obtain ⟨q1, e2, hm⟩ := ob hm
  refine X_cV1 (ci := 11) (kX12_cellsIn d (by omega) G e2) ml_X12_396 mi_X12_cellsIn rfl cf_11 (g_K123 G) rfl rfl (Nat.le_refl _) ⟨Nat.le_refl _, Nat.le_refl _⟩ (Nat.le_of_ble_eq_true rfl) dX12_isNextRow_2 ?_
  refine X_iconst (v := (1 : Int32)) dX12_isNextRow_5 (by decide) ?_
  refine X_isub dX12_isNextRow_6 ?_
  refine X_istore_n (lv' := [(2, .int (q1 - (1 : Int32))), (0, .ref 123), (1, .int a1)]) dX12_isNextRow_7 rfl (by decide) rfl ?_
  refine X_lv [1, 2, 0] rfl (kX12_isNextRow_8 _ hd G (fun I_9 a2_9 hm => ?_) xf _ _ _  hm)
  refine X_aload_n 0 dX12_isNextRow_34 rfl rfl rfl ?_
  refine X_getPe fl_X12_136 (g_K123 G) rfl (g_P123_54 G) dX12_isNextRow_35 ?_
  refine X_iload_n 1 dX12_isNextRow_38 rfl rfl ?_
  refine X_dup2 dX12_isNextRow_39 rfl rfl ?_
  obtain ⟨g10, hm⟩ := og hm
  refine X_ialdJ (g_K164 G) g10 rfl dX12_isNextRow_40 ?_
  refine X_iconst (v := (1 : Int32)) dX12_isNextRow_41 (by decide) ?_
  refine X_iadd dX12_isNextRow_42 ?_
  obtain ⟨g11, hm⟩ := og hm
  refine X_iastJ (g_K164 G) g11 rfl dX12_isNextRow_43 ?_
  refine X_iconst (v := (1 : Int32)) dX12_isNextRow_44 (by decide) ?_
  replace hm := Option.some.inj hm
  subst hm
  exact X_zret (v := (1 : Int32)) dX12_isNextRow_45 rfl (x_nz (Or.inr rfl))
def mX12_isTheirsScraped_2  (e20 : (Nat → Nat → Int32) → Int32 → Int32 → Option (Int32 × (Nat → Nat → Int32))) : Nat → (Nat → Nat → Int32) → Int32 → Int32 → Int32 → Option (Int32 × (Nat → Nat → Int32))
  | 0, _, _, _, _ => none
  | f + 1, I, a1, a2, a3 => (if (4 : Int32) ≤ a3 then (e20 I a1 a2) else (if inb a3 4 = true then (mX12_isTheirsScraped_2 e20 f (xu I 160 (ix a3) (0 : Int32)) a1 a2 (a3 + 1)) else none))
set_option maxHeartbeats 400000 in
set_option maxRecDepth 100000 in
theorem kX12_isTheirsScraped_2 {E : xE} {B : Nat} {n : Nat} {K : Nat → Nat × Nat} {P : Nat → Nat → Nat} {L : Nat → Nat → Int64}  {e20 : (Nat → Nat → Int32) → Int32 → Int32 → Option (Int32 × (Nat → Nat → Int32))} {q : Int32 × (Nat → Nat → Int32)} (d : Nat) (hd : 2 ≤ d) (G : GW K P)  (he20 : ∀ (I : Nat → Nat → Int32) (a1 : Int32) (a2 : Int32), e20 I a1 a2 = some q → X E B d 0 0 yX12_isTheirsScraped cX12_isTheirsScraped 5 (some .boolean) (some (.int q.1), (n, K, P, q.2, L)) 20 [(0, .ref 123), (1, .int a1), (2, .int a2)] [] 0 0 (n, K, P, I, L)) : ∀ (f : Nat) (I : Nat → Nat → Int32) (a1 : Int32) (a2 : Int32) (a3 : Int32), mX12_isTheirsScraped_2 e20 f I a1 a2 a3 = some q → X E B d 0 0 yX12_isTheirsScraped cX12_isTheirsScraped 5 (some .boolean) (some (.int q.1), (n, K, P, q.2, L)) 2 [(0, .ref 123), (1, .int a1), (2, .int a2), (3, .int a3)] [] 0 0 (n, K, P, I, L) := by
  obtain ⟨d, rfl⟩ : ∃ d0, d = d0 + 1 := ⟨d - 1, by omega⟩
  intro f
  induction f with
  | zero => intro _ _ _ _ hm; exact nomatch (show (none : Option (Int32 × (Nat → Nat → Int32))) = some q from hm)
  | succ f ih =>
    intro I a1 a2 a3 hm
    rw [mX12_isTheirsScraped_2] at hm
    refine X_iload_n 3 dX12_isTheirsScraped_2 rfl rfl ?_
    refine X_iconst (v := (4 : Int32)) dX12_isTheirsScraped_3 (by decide) ?_
    refine X_icmp_ge (tgt := 20) dX12_isTheirsScraped_4 (by decide) (fun c1 => ?_) (fun c1 => ?_)
    · replace hm := ip c1 hm
      exact X_lv [0, 1, 2] rfl (he20 _ _ _ hm)
    · replace hm := iq c1 hm
      refine X_aload_n 0 dX12_isTheirsScraped_7 rfl rfl rfl ?_
      refine X_getPe fl_X12_124 (g_K123 G) rfl (g_P123_47 G) dX12_isTheirsScraped_8 ?_
      refine X_iload_n 3 dX12_isTheirsScraped_11 rfl rfl ?_
      refine X_iconst (v := (0 : Int32)) dX12_isTheirsScraped_12 (by decide) ?_
      obtain ⟨g2, hm⟩ := og hm
      refine X_iastJ (g_K160 G) g2 rfl dX12_isTheirsScraped_13 ?_
      refine X_iinc (lv' := [(3, .int (a3 + 1)), (0, .ref 123), (1, .int a1), (2, .int a2)]) 3 dX12_isTheirsScraped_14 rfl rfl (by decide) rfl ?_
      refine X_goto (tgt := 2) dX12_isTheirsScraped_17 (by decide) ?_
      exact X_lv [1, 2, 3, 0] rfl (ih _ _ _ _ hm)
def mX12_isTheirsScraped_22  (e95 : (Nat → Nat → Int32) → Int32 → Int32 → Option (Int32 × (Nat → Nat → Int32))) : Nat → (Nat → Nat → Int32) → Int32 → Int32 → Int32 → Option (Int32 × (Nat → Nat → Int32))
  | 0, _, _, _, _ => none
  | f + 1, I, a1, a2, a3 => (Option.bind (mX12_cellsIn I a2) (fun q4 => (if q4 ≤ a3 then (e95 I a1 a2) else (if inb a2 5 = true then (if inb a2 5 = true then (if inb ((I 125 (ix a2)) + a3) 16 = true then (if inb a3 6 = true then (Option.bind (mX12_ownerBy I ((I 125 (ix a2)) + a3) ((I 131 (ix ((I 125 (ix a2)) + a3))) - (I 164 (ix a3))) (I 124 9)) (fun q11 => (if q11 = (-1 : Int32) then (mX12_isTheirsScraped_22 e95 f I a1 a2 (a3 + 1)) else (if inb q11 4 = true then (if inb q11 4 = true then (mX12_isTheirsScraped_22 e95 f (xu I 160 (ix q11) ((I 160 (ix q11)) + (1 : Int32))) a1 a2 (a3 + 1)) else none) else none)))) else none) else none) else none) else none))))
set_option maxHeartbeats 400000 in
set_option maxRecDepth 100000 in
theorem kX12_isTheirsScraped_22 {E : xE} {B : Nat} {n : Nat} {K : Nat → Nat × Nat} {P : Nat → Nat → Nat} {L : Nat → Nat → Int64}  {e95 : (Nat → Nat → Int32) → Int32 → Int32 → Option (Int32 × (Nat → Nat → Int32))} {q : Int32 × (Nat → Nat → Int32)} (d : Nat) (hd : 2 ≤ d) (G : GW K P)  (he95 : ∀ (I : Nat → Nat → Int32) (a1 : Int32) (a2 : Int32), e95 I a1 a2 = some q → X E B d 0 0 yX12_isTheirsScraped cX12_isTheirsScraped 5 (some .boolean) (some (.int q.1), (n, K, P, q.2, L)) 95 [(0, .ref 123), (1, .int a1), (2, .int a2)] [] 0 0 (n, K, P, I, L)) : ∀ (f : Nat) (I : Nat → Nat → Int32) (a1 : Int32) (a2 : Int32) (a3 : Int32), mX12_isTheirsScraped_22 e95 f I a1 a2 a3 = some q → X E B d 0 0 yX12_isTheirsScraped cX12_isTheirsScraped 5 (some .boolean) (some (.int q.1), (n, K, P, q.2, L)) 22 [(0, .ref 123), (1, .int a1), (2, .int a2), (3, .int a3)] [] 0 0 (n, K, P, I, L) := by
  obtain ⟨d, rfl⟩ : ∃ d0, d = d0 + 1 := ⟨d - 1, by omega⟩
  intro f
  induction f with
  | zero => intro _ _ _ _ hm; exact nomatch (show (none : Option (Int32 × (Nat → Nat → Int32))) = some q from hm)
  | succ f ih =>
    intro I a1 a2 a3 hm
    rw [mX12_isTheirsScraped_22] at hm
    refine X_iload_n 3 dX12_isTheirsScraped_22 rfl rfl ?_
    refine X_aload_n 0 dX12_isTheirsScraped_23 rfl rfl rfl ?_
    refine X_iload_n 2 dX12_isTheirsScraped_24 rfl rfl ?_
    obtain ⟨q4, e5, hm⟩ := ob hm
    refine X_cV1 (ci := 11) (kX12_cellsIn d (by omega) G e5) ml_X12_396 mi_X12_cellsIn rfl cf_11 (g_K123 G) rfl rfl (Nat.le_refl _) ⟨Nat.le_refl _, Nat.le_refl _⟩ (Nat.le_of_ble_eq_true rfl) dX12_isTheirsScraped_25 ?_
    refine X_icmp_ge (tgt := 95) dX12_isTheirsScraped_28 (by decide) (fun c6 => ?_) (fun c6 => ?_)
    · replace hm := ip c6 hm
      exact X_lv [0, 1, 2] rfl (he95 _ _ _ hm)
    · replace hm := iq c6 hm
      refine X_aload_n 0 dX12_isTheirsScraped_31 rfl rfl rfl ?_
      refine X_aload_n 0 dX12_isTheirsScraped_32 rfl rfl rfl ?_
      refine X_getPe fl_X12_13 (g_K123 G) rfl (g_P123_2 G) dX12_isTheirsScraped_33 ?_
      refine X_iload_n 2 dX12_isTheirsScraped_36 rfl rfl ?_
      obtain ⟨g7, hm⟩ := og hm
      refine X_ialdJ (g_K125 G) g7 rfl dX12_isTheirsScraped_37 ?_
      refine X_iload_n 3 dX12_isTheirsScraped_38 rfl rfl ?_
      refine X_iadd dX12_isTheirsScraped_39 ?_
      refine X_aload_n 0 dX12_isTheirsScraped_40 rfl rfl rfl ?_
      refine X_getPe fl_X12_31 (g_K123 G) rfl (g_P123_8 G) dX12_isTheirsScraped_41 ?_
      refine X_aload_n 0 dX12_isTheirsScraped_44 rfl rfl rfl ?_
      refine X_getPe fl_X12_13 (g_K123 G) rfl (g_P123_2 G) dX12_isTheirsScraped_45 ?_
      refine X_iload_n 2 dX12_isTheirsScraped_48 rfl rfl ?_
      obtain ⟨g8, hm⟩ := og hm
      refine X_ialdJ (g_K125 G) g8 rfl dX12_isTheirsScraped_49 ?_
      refine X_iload_n 3 dX12_isTheirsScraped_50 rfl rfl ?_
      refine X_iadd dX12_isTheirsScraped_51 ?_
      obtain ⟨g9, hm⟩ := og hm
      refine X_ialdJ (g_K131 G) g9 rfl dX12_isTheirsScraped_52 ?_
      refine X_aload_n 0 dX12_isTheirsScraped_53 rfl rfl rfl ?_
      refine X_getPe fl_X12_136 (g_K123 G) rfl (g_P123_54 G) dX12_isTheirsScraped_54 ?_
      refine X_iload_n 3 dX12_isTheirsScraped_57 rfl rfl ?_
      obtain ⟨g10, hm⟩ := og hm
      refine X_ialdJ (g_K164 G) g10 rfl dX12_isTheirsScraped_58 ?_
      refine X_isub dX12_isTheirsScraped_59 ?_
      refine X_aload_n 0 dX12_isTheirsScraped_60 rfl rfl rfl ?_
      refine X_getPe fl_X12_9 (g_K123 G) rfl (g_P123_1 G) dX12_isTheirsScraped_61 ?_
      refine X_bipush (v := (9 : Int32)) dX12_isTheirsScraped_64 (by decide) ?_
      refine X_ialdJ (j := 9) (g_K124 G) rfl (by decide) dX12_isTheirsScraped_66 ?_
      obtain ⟨q11, e12, hm⟩ := ob hm
      refine X_cV1 (ci := 11) (kX12_ownerBy d (by omega) G e12) ml_X12_388 mi_X12_ownerBy rfl cf_11 (g_K123 G) rfl rfl (Nat.le_refl _) ⟨Nat.le_refl _, Nat.le_refl _⟩ (Nat.le_of_ble_eq_true rfl) dX12_isTheirsScraped_67 ?_
      refine X_istore (lv' := [(4, .int q11), (0, .ref 123), (1, .int a1), (2, .int a2), (3, .int a3)]) dX12_isTheirsScraped_70 (by decide) rfl ?_
      refine X_iload 0 dX12_isTheirsScraped_72 rfl ?_
      refine X_iconst (v := (-1 : Int32)) dX12_isTheirsScraped_74 (by decide) ?_
      refine X_icmp_eq (tgt := 89) dX12_isTheirsScraped_75 (by decide) (fun c13 => ?_) (fun c13 => ?_)
      · replace hm := ip c13 hm
        refine X_iinc (lv' := [(3, .int (a3 + 1)), (4, .int q11), (0, .ref 123), (1, .int a1), (2, .int a2)]) 4 dX12_isTheirsScraped_89 rfl rfl (by decide) rfl ?_
        refine X_goto (tgt := 22) dX12_isTheirsScraped_92 (by decide) ?_
        exact X_lv [2, 3, 4, 0] rfl (ih _ _ _ _ hm)
      · replace hm := iq c13 hm
        refine X_aload_n 1 dX12_isTheirsScraped_78 rfl rfl rfl ?_
        refine X_getPe fl_X12_124 (g_K123 G) rfl (g_P123_47 G) dX12_isTheirsScraped_79 ?_
        refine X_iload 0 dX12_isTheirsScraped_82 rfl ?_
        refine X_dup2 dX12_isTheirsScraped_84 rfl rfl ?_
        obtain ⟨g14, hm⟩ := og hm
        refine X_ialdJ (g_K160 G) g14 rfl dX12_isTheirsScraped_85 ?_
        refine X_iconst (v := (1 : Int32)) dX12_isTheirsScraped_86 (by decide) ?_
        refine X_iadd dX12_isTheirsScraped_87 ?_
        obtain ⟨g15, hm⟩ := og hm
        refine X_iastJ (g_K160 G) g15 rfl dX12_isTheirsScraped_88 ?_
        refine X_iinc (lv' := [(3, .int (a3 + 1)), (4, .int q11), (0, .ref 123), (1, .int a1), (2, .int a2)]) 4 dX12_isTheirsScraped_89 rfl rfl (by decide) rfl ?_
        refine X_goto (tgt := 22) dX12_isTheirsScraped_92 (by decide) ?_
        exact X_lv [2, 3, 4, 0] rfl (ih _ _ _ _ hm)
def mX12_isTheirsScraped  (I : Nat → Nat → Int32) (a1 : Int32) (a2 : Int32) : Option (Int32 × (Nat → Nat → Int32)) := (mX12_isTheirsScraped_2 (fun (I_3 : (Nat → Nat → Int32)) (a1_3 : Int32) (a2_3 : Int32) => (mX12_isTheirsScraped_22 (fun (I_16 : (Nat → Nat → Int32)) (a1_16 : Int32) (a2_16 : Int32) => (Option.bind (mX12_cellsIn I_16 a2_16) (fun q17 => (Option.bind (mX12_ownerByCells I_16 q17 (I_16 124 1)) (fun q19 => (if q19 = a1_16 then (some ((1 : Int32), I_16)) else (some ((0 : Int32), I_16)))))))) xf I_3 a1_3 a2_3 (0 : Int32))) xf I a1 a2 (0 : Int32))
set_option maxHeartbeats 400000 in
set_option maxRecDepth 100000 in
theorem kX12_isTheirsScraped {E : xE} {B : Nat} {n : Nat} {K : Nat → Nat × Nat} {P : Nat → Nat → Nat} {I : Nat → Nat → Int32} {L : Nat → Nat → Int64}  {a1 : Int32} {a2 : Int32} {q : Int32 × (Nat → Nat → Int32)} (d : Nat) (hd : 2 ≤ d) (G : GW K P)   (hm : mX12_isTheirsScraped I a1 a2 = some q) : MX E B d 0 0 yX12_isTheirsScraped cX12_isTheirsScraped 5 (some .boolean) [.ref 123, .int a1, .int a2] (n, K, P, I, L) (some (.int q.1), (n, K, P, q.2, L)) := by
  refine MX_of (lv := [(0, .ref 123), (1, .int a1), (2, .int a2)]) (by decide +kernel) (Nat.le_of_ble_eq_true rfl) rfl ?_
  obtain ⟨d, rfl⟩ : ∃ d0, d = d0 + 1 := ⟨d - 1, by omega⟩
  unfold mX12_isTheirsScraped at hm
  refine X_iconst (v := (0 : Int32)) dX12_isTheirsScraped_0 (by decide) ?_
  refine X_istore_n (lv' := [(3, .int (0 : Int32)), (0, .ref 123), (1, .int a1), (2, .int a2)]) dX12_isTheirsScraped_1 rfl (by decide) rfl ?_
  refine X_lv [1, 2, 3, 0] rfl (kX12_isTheirsScraped_2 _ hd G (fun I_3 a1_3 a2_3 hm => ?_) xf _ _ _ _  hm)
  refine X_iconst (v := (0 : Int32)) dX12_isTheirsScraped_20 (by decide) ?_
  refine X_istore_n (lv' := [(3, .int (0 : Int32)), (0, .ref 123), (1, .int a1_3), (2, .int a2_3)]) dX12_isTheirsScraped_21 rfl (by decide) rfl ?_
  refine X_lv [1, 2, 3, 0] rfl (kX12_isTheirsScraped_22 _ hd G (fun I_16 a1_16 a2_16 hm => ?_) xf _ _ _ _  hm)
  refine X_aload_n 0 dX12_isTheirsScraped_95 rfl rfl rfl ?_
  refine X_aload_n 0 dX12_isTheirsScraped_96 rfl rfl rfl ?_
  refine X_iload_n 2 dX12_isTheirsScraped_97 rfl rfl ?_
  obtain ⟨q17, e18, hm⟩ := ob hm
  refine X_cV1 (ci := 11) (kX12_cellsIn d (by omega) G e18) ml_X12_396 mi_X12_cellsIn rfl cf_11 (g_K123 G) rfl rfl (Nat.le_refl _) ⟨Nat.le_refl _, Nat.le_refl _⟩ (Nat.le_of_ble_eq_true rfl) dX12_isTheirsScraped_98 ?_
  refine X_aload_n 0 dX12_isTheirsScraped_101 rfl rfl rfl ?_
  refine X_getPe fl_X12_9 (g_K123 G) rfl (g_P123_1 G) dX12_isTheirsScraped_102 ?_
  refine X_iconst (v := (1 : Int32)) dX12_isTheirsScraped_105 (by decide) ?_
  refine X_ialdJ (j := 1) (g_K124 G) rfl (by decide) dX12_isTheirsScraped_106 ?_
  obtain ⟨q19, e20, hm⟩ := ob hm
  refine X_cV1 (ci := 11) (kX12_ownerByCells d (by omega) G e20) ml_X12_399 mi_X12_ownerByCells rfl cf_11 (g_K123 G) rfl rfl (Nat.le_refl _) ⟨Nat.le_refl _, Nat.le_refl _⟩ (Nat.le_of_ble_eq_true rfl) dX12_isTheirsScraped_107 ?_
  refine X_iload_n 1 dX12_isTheirsScraped_110 rfl rfl ?_
  refine X_icmp_ne (tgt := 118) dX12_isTheirsScraped_111 (by decide) (fun c21 => ?_) (fun c21 => ?_)
  · replace hm := iq c21 hm
    refine X_iconst (v := (0 : Int32)) dX12_isTheirsScraped_118 (by decide) ?_
    replace hm := Option.some.inj hm
    subst hm
    exact X_zret (v := (0 : Int32)) dX12_isTheirsScraped_119 rfl (x_nz (Or.inl rfl))
  · replace hm := ip c21 hm
    refine X_iconst (v := (1 : Int32)) dX12_isTheirsScraped_114 (by decide) ?_
    refine X_goto (tgt := 119) dX12_isTheirsScraped_115 (by decide) ?_
    replace hm := Option.some.inj hm
    subst hm
    exact X_zret (v := (1 : Int32)) dX12_isTheirsScraped_119 rfl (x_nz (Or.inr rfl))
def mX12_allScraped_4 (I : Nat → Nat → Int32)  : Nat → Int32 → Int32 → Option (Int32)
  | 0, _, _ => none
  | f + 1, a1, a2 => (if (6 : Int32) ≤ a2 then (some a1) else (if inb a2 6 = true then (mX12_allScraped_4 I f (a1 + (I 164 (ix a2))) (a2 + 1)) else none))
set_option maxHeartbeats 400000 in
set_option maxRecDepth 100000 in
theorem kX12_allScraped_4 {E : xE} {B : Nat} {n : Nat} {K : Nat → Nat × Nat} {P : Nat → Nat → Nat} {I : Nat → Nat → Int32} {L : Nat → Nat → Int64}   {q : Int32} (d : Nat) (hd : 0 ≤ d) (G : GW K P)   : ∀ (f : Nat) (a1 : Int32) (a2 : Int32), mX12_allScraped_4 I f a1 a2 = some q → X E B d 0 0 yX12_allScraped cX12_allScraped 3 (some .int) (some (.int q), (n, K, P, I, L)) 4 [(0, .ref 123), (1, .int a1), (2, .int a2)] [] 0 0 (n, K, P, I, L) := by
  intro f
  induction f with
  | zero => intro _ _ hm; exact nomatch (show (none : Option (Int32)) = some q from hm)
  | succ f ih =>
    intro a1 a2 hm
    rw [mX12_allScraped_4] at hm
    refine X_iload_n 2 dX12_allScraped_4 rfl rfl ?_
    refine X_bipush (v := (6 : Int32)) dX12_allScraped_5 (by decide) ?_
    refine X_icmp_ge (tgt := 25) dX12_allScraped_7 (by decide) (fun c1 => ?_) (fun c1 => ?_)
    · replace hm := ip c1 hm
      refine X_iload_n 1 dX12_allScraped_25 rfl rfl ?_
      replace hm := Option.some.inj hm
      subst hm
      exact X_iret dX12_allScraped_26 rfl
    · replace hm := iq c1 hm
      refine X_iload_n 1 dX12_allScraped_10 rfl rfl ?_
      refine X_aload_n 0 dX12_allScraped_11 rfl rfl rfl ?_
      refine X_getPe fl_X12_136 (g_K123 G) rfl (g_P123_54 G) dX12_allScraped_12 ?_
      refine X_iload_n 2 dX12_allScraped_15 rfl rfl ?_
      obtain ⟨g2, hm⟩ := og hm
      refine X_ialdJ (g_K164 G) g2 rfl dX12_allScraped_16 ?_
      refine X_iadd dX12_allScraped_17 ?_
      refine X_istore_n (lv' := [(1, .int (a1 + (I 164 (ix a2)))), (0, .ref 123), (2, .int a2)]) dX12_allScraped_18 rfl (by decide) rfl ?_
      refine X_iinc (lv' := [(2, .int (a2 + 1)), (1, .int (a1 + (I 164 (ix a2)))), (0, .ref 123)]) 2 dX12_allScraped_19 rfl rfl (by decide) rfl ?_
      refine X_goto (tgt := 4) dX12_allScraped_22 (by decide) ?_
      exact X_lv [2, 1, 0] rfl (ih _ _ hm)
def mX12_allScraped (I : Nat → Nat → Int32)  : Option (Int32) := (mX12_allScraped_4 I xf (0 : Int32) (0 : Int32))
set_option maxHeartbeats 400000 in
set_option maxRecDepth 100000 in
theorem kX12_allScraped {E : xE} {B : Nat} {n : Nat} {K : Nat → Nat × Nat} {P : Nat → Nat → Nat} {I : Nat → Nat → Int32} {L : Nat → Nat → Int64}   {q : Int32} (d : Nat) (hd : 0 ≤ d) (G : GW K P)   (hm : mX12_allScraped I = some q) : MX E B d 0 0 yX12_allScraped cX12_allScraped 3 (some .int) [.ref 123] (n, K, P, I, L) (some (.int q), (n, K, P, I, L)) := by
  refine MX_of (lv := [(0, .ref 123)]) (by decide +kernel) (Nat.le_of_ble_eq_true rfl) rfl ?_
  unfold mX12_allScraped at hm
  refine X_iconst (v := (0 : Int32)) dX12_allScraped_0 (by decide) ?_
  refine X_istore_n (lv' := [(1, .int (0 : Int32)), (0, .ref 123)]) dX12_allScraped_1 rfl (by decide) rfl ?_
  refine X_iconst (v := (0 : Int32)) dX12_allScraped_2 (by decide) ?_
  refine X_istore_n (lv' := [(2, .int (0 : Int32)), (1, .int (0 : Int32)), (0, .ref 123)]) dX12_allScraped_3 rfl (by decide) rfl ?_
  refine X_lv [2, 1, 0] rfl (kX12_allScraped_4 _ hd G xf _ _  hm)
def mX12_fewest_33  (e54 : (Nat → Nat → Int32) → Int32 → Int32 → Int32 → Option (Int32 × (Nat → Nat → Int32))) : Nat → (Nat → Nat → Int32) → Int32 → Int32 → Int32 → Int32 → Option (Int32 × (Nat → Nat → Int32))
  | 0, _, _, _, _, _ => none
  | f + 1, I, a1, a2, a3, a4 => (if (6 : Int32) ≤ a4 then (e54 I a1 a2 a3) else (if inb a4 6 = true then (mX12_fewest_33 e54 f (xu I 164 (ix a4) (0 : Int32)) a1 a2 a3 (a4 + 1)) else none))
set_option maxHeartbeats 400000 in
set_option maxRecDepth 100000 in
theorem kX12_fewest_33 {E : xE} {B : Nat} {n : Nat} {K : Nat → Nat × Nat} {P : Nat → Nat → Nat} {L : Nat → Nat → Int64}  {e54 : (Nat → Nat → Int32) → Int32 → Int32 → Int32 → Option (Int32 × (Nat → Nat → Int32))} {q : Int32 × (Nat → Nat → Int32)} (d : Nat) (hd : 3 ≤ d) (G : GW K P)  (he54 : ∀ (I : Nat → Nat → Int32) (a1 : Int32) (a2 : Int32) (a3 : Int32), e54 I a1 a2 a3 = some q → X E B d 0 0 yX12_fewest cX12_fewest 7 (some .int) (some (.int q.1), (n, K, P, q.2, L)) 54 [(0, .ref 123), (1, .int a1), (2, .int a2), (3, .int a3)] [] 0 0 (n, K, P, I, L)) : ∀ (f : Nat) (I : Nat → Nat → Int32) (a1 : Int32) (a2 : Int32) (a3 : Int32) (a4 : Int32), mX12_fewest_33 e54 f I a1 a2 a3 a4 = some q → X E B d 0 0 yX12_fewest cX12_fewest 7 (some .int) (some (.int q.1), (n, K, P, q.2, L)) 33 [(0, .ref 123), (1, .int a1), (2, .int a2), (3, .int a3), (4, .int a4)] [] 0 0 (n, K, P, I, L) := by
  obtain ⟨d, rfl⟩ : ∃ d0, d = d0 + 1 := ⟨d - 1, by omega⟩
  intro f
  induction f with
  | zero => intro _ _ _ _ _ hm; exact nomatch (show (none : Option (Int32 × (Nat → Nat → Int32))) = some q from hm)
  | succ f ih =>
    intro I a1 a2 a3 a4 hm
    rw [mX12_fewest_33] at hm
    refine X_iload 4 dX12_fewest_33 rfl ?_
    refine X_bipush (v := (6 : Int32)) dX12_fewest_35 (by decide) ?_
    refine X_icmp_ge (tgt := 54) dX12_fewest_37 (by decide) (fun c10 => ?_) (fun c10 => ?_)
    · replace hm := ip c10 hm
      exact X_lv [0, 1, 2, 3] rfl (he54 _ _ _ _ hm)
    · replace hm := iq c10 hm
      refine X_aload_n 0 dX12_fewest_40 rfl rfl rfl ?_
      refine X_getPe fl_X12_136 (g_K123 G) rfl (g_P123_54 G) dX12_fewest_41 ?_
      refine X_iload 4 dX12_fewest_44 rfl ?_
      refine X_iconst (v := (0 : Int32)) dX12_fewest_46 (by decide) ?_
      obtain ⟨g11, hm⟩ := og hm
      refine X_iastJ (g_K164 G) g11 rfl dX12_fewest_47 ?_
      refine X_iinc (lv' := [(4, .int (a4 + 1)), (0, .ref 123), (1, .int a1), (2, .int a2), (3, .int a3)]) 4 dX12_fewest_48 rfl rfl (by decide) rfl ?_
      refine X_goto (tgt := 33) dX12_fewest_51 (by decide) ?_
      exact X_lv [1, 2, 3, 4, 0] rfl (ih _ _ _ _ _ hm)
def mX12_fewest_122 (b73 : (Nat → Nat → Int32) → Int32 → Int32 → Int32 → Int32 → Int32 → Option (Int32 × (Nat → Nat → Int32))) (e132 : (Nat → Nat → Int32) → Int32 → Int32 → Int32 → Option (Int32 × (Nat → Nat → Int32))) (I : Nat → Nat → Int32) (a1 : Int32) (a2 : Int32) (a3 : Int32) (a4 : Int32) : Option (Int32 × (Nat → Nat → Int32)) := (Option.bind (mX12_isNextRow I a2) (fun q23 => (b73 q23.2 a1 a2 a3 a4 q23.1)))
set_option maxHeartbeats 400000 in
set_option maxRecDepth 100000 in
theorem kX12_fewest_122 {E : xE} {B : Nat} {n : Nat} {K : Nat → Nat × Nat} {P : Nat → Nat → Nat} {I : Nat → Nat → Int32} {L : Nat → Nat → Int64}  {b73 : (Nat → Nat → Int32) → Int32 → Int32 → Int32 → Int32 → Int32 → Option (Int32 × (Nat → Nat → Int32))} {e132 : (Nat → Nat → Int32) → Int32 → Int32 → Int32 → Option (Int32 × (Nat → Nat → Int32))} {a1 : Int32} {a2 : Int32} {a3 : Int32} {a4 : Int32} {q : Int32 × (Nat → Nat → Int32)} (d : Nat) (hd : 3 ≤ d) (G : GW K P)  (hb73 : ∀ (I : Nat → Nat → Int32) (a1 : Int32) (a2 : Int32) (a3 : Int32) (a4 : Int32) (a5 : Int32), b73 I a1 a2 a3 a4 a5 = some q → X E B d 0 0 yX12_fewest cX12_fewest 7 (some .int) (some (.int q.1), (n, K, P, q.2, L)) 73 [(0, .ref 123), (1, .int a1), (2, .int a2), (3, .int a3), (4, .int a4), (5, .int a5)] [] 0 0 (n, K, P, I, L)) (he132 : ∀ (I : Nat → Nat → Int32) (a2 : Int32) (a3 : Int32) (a4 : Int32), e132 I a2 a3 a4 = some q → X E B d 0 0 yX12_fewest cX12_fewest 7 (some .int) (some (.int q.1), (n, K, P, q.2, L)) 132 [(0, .ref 123), (2, .int a2), (3, .int a3), (4, .int a4)] [] 0 0 (n, K, P, I, L))  (hm : mX12_fewest_122 b73 e132 I a1 a2 a3 a4 = some q) : X E B d 0 0 yX12_fewest cX12_fewest 7 (some .int) (some (.int q.1), (n, K, P, q.2, L)) 122 [(0, .ref 123), (1, .int a1), (2, .int a2), (3, .int a3), (4, .int a4)] [] 0 0 (n, K, P, I, L) := by
  obtain ⟨d, rfl⟩ : ∃ d0, d = d0 + 1 := ⟨d - 1, by omega⟩
  unfold mX12_fewest_122 at hm
  refine X_aload_n 0 dX12_fewest_122 rfl rfl rfl ?_
  refine X_iload_n 2 dX12_fewest_123 rfl rfl ?_
  obtain ⟨q23, e24, hm⟩ := ob hm
  refine X_cV1 (ci := 11) (kX12_isNextRow d (by omega) G e24) ml_X12_521 mi_X12_isNextRow rfl cf_11 (g_K123 G) rfl rfl (Nat.le_refl _) ⟨Nat.le_refl _, Nat.le_refl _⟩ (Nat.le_of_ble_eq_true rfl) dX12_fewest_124 ?_
  refine X_istore (lv' := [(5, .int q23.1), (0, .ref 123), (1, .int a1), (2, .int a2), (3, .int a3), (4, .int a4)]) dX12_fewest_127 (by decide) rfl ?_
  refine X_goto (tgt := 73) dX12_fewest_129 (by decide) ?_
  exact X_lv [1, 2, 3, 4, 5, 0] rfl (hb73 _ _ _ _ _ _ hm)
def mX12_fewest_98 (b73 : (Nat → Nat → Int32) → Int32 → Int32 → Int32 → Int32 → Int32 → Option (Int32 × (Nat → Nat → Int32))) (e132 : (Nat → Nat → Int32) → Int32 → Int32 → Int32 → Option (Int32 × (Nat → Nat → Int32))) (I : Nat → Nat → Int32) (a1 : Int32) (a2 : Int32) (a3 : Int32) (a4 : Int32) (a6 : Int32) : Option (Int32 × (Nat → Nat → Int32)) := (Option.bind (mX12_isTheirsScraped I a1 a2) (fun q20 => (if q20.1 = 0 then (mX12_fewest_122 b73 e132 q20.2 a1 a2 a3 a4) else (Option.bind (mX12_copies q20.2 164 6 165 6) (fun q25 => (mX12_fewest_122 b73 e132 q25 a1 a2 a3 a6))))))
set_option maxHeartbeats 400000 in
set_option maxRecDepth 100000 in
theorem kX12_fewest_98 {E : xE} {B : Nat} {n : Nat} {K : Nat → Nat × Nat} {P : Nat → Nat → Nat} {I : Nat → Nat → Int32} {L : Nat → Nat → Int64}  {b73 : (Nat → Nat → Int32) → Int32 → Int32 → Int32 → Int32 → Int32 → Option (Int32 × (Nat → Nat → Int32))} {e132 : (Nat → Nat → Int32) → Int32 → Int32 → Int32 → Option (Int32 × (Nat → Nat → Int32))} {a1 : Int32} {a2 : Int32} {a3 : Int32} {a4 : Int32} {a6 : Int32} {q : Int32 × (Nat → Nat → Int32)} (d : Nat) (hd : 3 ≤ d) (G : GW K P)  (hb73 : ∀ (I : Nat → Nat → Int32) (a1 : Int32) (a2 : Int32) (a3 : Int32) (a4 : Int32) (a5 : Int32), b73 I a1 a2 a3 a4 a5 = some q → X E B d 0 0 yX12_fewest cX12_fewest 7 (some .int) (some (.int q.1), (n, K, P, q.2, L)) 73 [(0, .ref 123), (1, .int a1), (2, .int a2), (3, .int a3), (4, .int a4), (5, .int a5)] [] 0 0 (n, K, P, I, L)) (he132 : ∀ (I : Nat → Nat → Int32) (a2 : Int32) (a3 : Int32) (a4 : Int32), e132 I a2 a3 a4 = some q → X E B d 0 0 yX12_fewest cX12_fewest 7 (some .int) (some (.int q.1), (n, K, P, q.2, L)) 132 [(0, .ref 123), (2, .int a2), (3, .int a3), (4, .int a4)] [] 0 0 (n, K, P, I, L))  (hm : mX12_fewest_98 b73 e132 I a1 a2 a3 a4 a6 = some q) : X E B d 0 0 yX12_fewest cX12_fewest 7 (some .int) (some (.int q.1), (n, K, P, q.2, L)) 98 [(0, .ref 123), (1, .int a1), (2, .int a2), (3, .int a3), (4, .int a4), (6, .int a6)] [] 0 0 (n, K, P, I, L) := by
  obtain ⟨d, rfl⟩ : ∃ d0, d = d0 + 1 := ⟨d - 1, by omega⟩
  unfold mX12_fewest_98 at hm
  refine X_aload_n 0 dX12_fewest_98 rfl rfl rfl ?_
  refine X_iload_n 1 dX12_fewest_99 rfl rfl ?_
  refine X_iload_n 2 dX12_fewest_100 rfl rfl ?_
  obtain ⟨q20, e21, hm⟩ := ob hm
  refine X_cV1 (ci := 11) (kX12_isTheirsScraped d (by omega) G e21) ml_X12_518 mi_X12_isTheirsScraped rfl cf_11 (g_K123 G) rfl rfl (Nat.le_refl _) ⟨Nat.le_refl _, Nat.le_refl _⟩ (Nat.le_of_ble_eq_true rfl) dX12_fewest_101 ?_
  refine X_if_eq (tgt := 122) dX12_fewest_104 (by decide) (fun c22 => ?_) (fun c22 => ?_)
  · replace hm := ip c22 hm
    exact X_lv [0, 1, 2, 3, 4] rfl (kX12_fewest_122 _ hd G hb73 he132 hm)
  · replace hm := iq c22 hm
    refine X_iload 5 dX12_fewest_107 rfl ?_
    refine X_istore (lv' := [(4, .int a6), (0, .ref 123), (1, .int a1), (2, .int a2), (3, .int a3), (6, .int a6)]) dX12_fewest_109 (by decide) rfl ?_
    refine X_aload_n 1 dX12_fewest_111 rfl rfl rfl ?_
    refine X_getPe fl_X12_136 (g_K123 G) rfl (g_P123_54 G) dX12_fewest_112 ?_
    refine X_aload_n 1 dX12_fewest_115 rfl rfl rfl ?_
    refine X_getPe fl_X12_139 (g_K123 G) rfl (g_P123_55 G) dX12_fewest_116 ?_
    obtain ⟨q25, e26, hm⟩ := ob hm
    refine X_cS0 (kX12_copies d (by omega) G (g_K164 G) (g_K165 G) e26) ml_X12_332 ms_X12_copies rfl rfl (Nat.le_refl _) ⟨Nat.le_refl _, Nat.le_refl _⟩ (Nat.le_of_ble_eq_true rfl) dX12_fewest_119 ?_
    exact X_lv [1, 2, 3, 4, 0] rfl (kX12_fewest_122 _ hd G hb73 he132 hm)
def mX12_fewest_73  (e132 : (Nat → Nat → Int32) → Int32 → Int32 → Int32 → Option (Int32 × (Nat → Nat → Int32))) : Nat → (Nat → Nat → Int32) → Int32 → Int32 → Int32 → Int32 → Int32 → Option (Int32 × (Nat → Nat → Int32))
  | 0, _, _, _, _, _, _ => none
  | f + 1, I, a1, a2, a3, a4, a5 => (if a5 = 0 then (e132 I a2 a3 a4) else (Option.bind (mX12_allScraped I) (fun q17 => (if a4 = (-2 : Int32) then (mX12_fewest_98 (fun (I : Nat → Nat → Int32) (a1 : Int32) (a2 : Int32) (a3 : Int32) (a4 : Int32) (a5 : Int32) => mX12_fewest_73 e132 f I a1 a2 a3 a4 a5) e132 I a1 a2 a3 a4 q17) else (if a4 ≤ q17 then (mX12_fewest_122 (fun (I : Nat → Nat → Int32) (a1 : Int32) (a2 : Int32) (a3 : Int32) (a4 : Int32) (a5 : Int32) => mX12_fewest_73 e132 f I a1 a2 a3 a4 a5) e132 I a1 a2 a3 a4) else (mX12_fewest_98 (fun (I : Nat → Nat → Int32) (a1 : Int32) (a2 : Int32) (a3 : Int32) (a4 : Int32) (a5 : Int32) => mX12_fewest_73 e132 f I a1 a2 a3 a4 a5) e132 I a1 a2 a3 a4 q17))))))
set_option maxHeartbeats 400000 in
set_option maxRecDepth 100000 in
theorem kX12_fewest_73 {E : xE} {B : Nat} {n : Nat} {K : Nat → Nat × Nat} {P : Nat → Nat → Nat} {L : Nat → Nat → Int64}  {e132 : (Nat → Nat → Int32) → Int32 → Int32 → Int32 → Option (Int32 × (Nat → Nat → Int32))} {q : Int32 × (Nat → Nat → Int32)} (d : Nat) (hd : 3 ≤ d) (G : GW K P)  (he132 : ∀ (I : Nat → Nat → Int32) (a2 : Int32) (a3 : Int32) (a4 : Int32), e132 I a2 a3 a4 = some q → X E B d 0 0 yX12_fewest cX12_fewest 7 (some .int) (some (.int q.1), (n, K, P, q.2, L)) 132 [(0, .ref 123), (2, .int a2), (3, .int a3), (4, .int a4)] [] 0 0 (n, K, P, I, L)) : ∀ (f : Nat) (I : Nat → Nat → Int32) (a1 : Int32) (a2 : Int32) (a3 : Int32) (a4 : Int32) (a5 : Int32), mX12_fewest_73 e132 f I a1 a2 a3 a4 a5 = some q → X E B d 0 0 yX12_fewest cX12_fewest 7 (some .int) (some (.int q.1), (n, K, P, q.2, L)) 73 [(0, .ref 123), (1, .int a1), (2, .int a2), (3, .int a3), (4, .int a4), (5, .int a5)] [] 0 0 (n, K, P, I, L) := by
  obtain ⟨d, rfl⟩ : ∃ d0, d = d0 + 1 := ⟨d - 1, by omega⟩
  intro f
  induction f with
  | zero => intro _ _ _ _ _ _ hm; exact nomatch (show (none : Option (Int32 × (Nat → Nat → Int32))) = some q from hm)
  | succ f ih =>
    intro I a1 a2 a3 a4 a5 hm
    rw [mX12_fewest_73] at hm
    refine X_iload 5 dX12_fewest_73 rfl ?_
    refine X_if_eq (tgt := 132) dX12_fewest_75 (by decide) (fun c16 => ?_) (fun c16 => ?_)
    · replace hm := ip c16 hm
      exact X_lv [0, 2, 3, 4] rfl (he132 _ _ _ _ hm)
    · replace hm := iq c16 hm
      refine X_aload_n 0 dX12_fewest_78 rfl rfl rfl ?_
      obtain ⟨q17, e18, hm⟩ := ob hm
      refine X_cV1 (ci := 11) (kX12_allScraped d (by omega) G e18) ml_X12_515 mi_X12_allScraped rfl cf_11 (g_K123 G) rfl rfl (Nat.le_refl _) ⟨Nat.le_refl _, Nat.le_refl _⟩ (Nat.le_of_ble_eq_true rfl) dX12_fewest_79 ?_
      refine X_istore (lv' := [(6, .int q17), (0, .ref 123), (1, .int a1), (2, .int a2), (3, .int a3), (4, .int a4), (5, .int a5)]) dX12_fewest_82 (by decide) rfl ?_
      refine X_iload 5 dX12_fewest_84 rfl ?_
      refine X_bipush (v := (-2 : Int32)) dX12_fewest_86 (by decide) ?_
      refine X_icmp_eq (tgt := 98) dX12_fewest_88 (by decide) (fun c19 => ?_) (fun c19 => ?_)
      · replace hm := ip c19 hm
        exact X_lv [1, 2, 3, 4, 5, 0] rfl (kX12_fewest_98 _ hd G ih he132 hm)
      · replace hm := iq c19 hm
        refine X_iload 0 dX12_fewest_91 rfl ?_
        refine X_iload 5 dX12_fewest_93 rfl ?_
        refine X_icmp_ge (tgt := 122) dX12_fewest_95 (by decide) (fun c27 => ?_) (fun c27 => ?_)
        · replace hm := ip c27 hm
          exact X_lv [1, 2, 3, 4, 5] rfl (kX12_fewest_122 _ hd G ih he132 hm)
        · replace hm := iq c27 hm
          exact X_lv [1, 2, 3, 4, 5, 0] rfl (kX12_fewest_98 _ hd G ih he132 hm)
def mX12_fewest_71  (I : Nat → Nat → Int32) (a1 : Int32) (a2 : Int32) (a3 : Int32) (a4 : Int32) (t0 : Int32) : Option (Int32 × (Nat → Nat → Int32)) := (mX12_fewest_73 (fun (I_28 : (Nat → Nat → Int32)) (a2_28 : Int32) (a3_28 : Int32) (a4_28 : Int32) => (if a4_28 = (-2 : Int32) then (some (a4_28, I_28)) else (if a3_28 = 0 then (some (a4_28, I_28)) else (Option.bind (mX12_cellsIn I_28 a2_28) (fun q31 => (if q31 < a3_28 then (some ((-2 : Int32), I_28)) else (if inb (a3_28 - (1 : Int32)) 6 = true then (some ((I_28 165 (ix (a3_28 - (1 : Int32)))), I_28)) else none))))))) xf I a1 a2 a3 a4 t0)
set_option maxHeartbeats 400000 in
set_option maxRecDepth 100000 in
theorem kX12_fewest_71 {E : xE} {B : Nat} {n : Nat} {K : Nat → Nat × Nat} {P : Nat → Nat → Nat} {I : Nat → Nat → Int32} {L : Nat → Nat → Int64}   {a1 : Int32} {a2 : Int32} {a3 : Int32} {a4 : Int32} {t0 : Int32} {q : Int32 × (Nat → Nat → Int32)} (d : Nat) (hd : 3 ≤ d) (G : GW K P)    (hm : mX12_fewest_71 I a1 a2 a3 a4 t0 = some q) : X E B d 0 0 yX12_fewest cX12_fewest 7 (some .int) (some (.int q.1), (n, K, P, q.2, L)) 71 [(0, .ref 123), (1, .int a1), (2, .int a2), (3, .int a3), (4, .int a4)] [.int t0] 0 0 (n, K, P, I, L) := by
  obtain ⟨d, rfl⟩ : ∃ d0, d = d0 + 1 := ⟨d - 1, by omega⟩
  unfold mX12_fewest_71 at hm
  refine X_istore (lv' := [(5, .int t0), (0, .ref 123), (1, .int a1), (2, .int a2), (3, .int a3), (4, .int a4)]) dX12_fewest_71 (by decide) rfl ?_
  refine X_lv [1, 2, 3, 4, 5, 0] rfl (kX12_fewest_73 _ hd G (fun I_28 a2_28 a3_28 a4_28 hm => ?_) xf _ _ _ _ _ _  hm)
  refine X_iload 3 dX12_fewest_132 rfl ?_
  refine X_bipush (v := (-2 : Int32)) dX12_fewest_134 (by decide) ?_
  refine X_icmp_eq (tgt := 143) dX12_fewest_136 (by decide) (fun c29 => ?_) (fun c29 => ?_)
  · replace hm := ip c29 hm
    refine X_iload 3 dX12_fewest_143 rfl ?_
    replace hm := Option.some.inj hm
    subst hm
    exact X_iret dX12_fewest_145 rfl
  · replace hm := iq c29 hm
    refine X_iload_n 2 dX12_fewest_139 rfl rfl ?_
    refine X_if_ne (tgt := 146) dX12_fewest_140 (by decide) (fun c30 => ?_) (fun c30 => ?_)
    · replace hm := iq c30 hm
      refine X_iload_n 2 dX12_fewest_146 rfl rfl ?_
      refine X_aload_n 0 dX12_fewest_147 rfl rfl rfl ?_
      refine X_iload_n 1 dX12_fewest_148 rfl rfl ?_
      obtain ⟨q31, e32, hm⟩ := ob hm
      refine X_cV1 (ci := 11) (kX12_cellsIn d (by omega) G e32) ml_X12_396 mi_X12_cellsIn rfl cf_11 (g_K123 G) rfl rfl (Nat.le_refl _) ⟨Nat.le_refl _, Nat.le_refl _⟩ (Nat.le_of_ble_eq_true rfl) dX12_fewest_149 ?_
      refine X_icmp_gt (tgt := 166) dX12_fewest_152 (by decide) (fun c33 => ?_) (fun c33 => ?_)
      · replace hm := ip c33 hm
        refine X_bipush (v := (-2 : Int32)) dX12_fewest_166 (by decide) ?_
        replace hm := Option.some.inj hm
        subst hm
        exact X_iret dX12_fewest_168 rfl
      · replace hm := iq c33 hm
        refine X_aload_n 0 dX12_fewest_155 rfl rfl rfl ?_
        refine X_getPe fl_X12_139 (g_K123 G) rfl (g_P123_55 G) dX12_fewest_156 ?_
        refine X_iload_n 2 dX12_fewest_159 rfl rfl ?_
        refine X_iconst (v := (1 : Int32)) dX12_fewest_160 (by decide) ?_
        refine X_isub dX12_fewest_161 ?_
        obtain ⟨g34, hm⟩ := og hm
        refine X_ialdJ (g_K165 G) g34 rfl dX12_fewest_162 ?_
        refine X_goto (tgt := 168) dX12_fewest_163 (by decide) ?_
        replace hm := Option.some.inj hm
        subst hm
        exact X_iret dX12_fewest_168 rfl
    · replace hm := ip c30 hm
      refine X_iload 3 dX12_fewest_143 rfl ?_
      replace hm := Option.some.inj hm
      subst hm
      exact X_iret dX12_fewest_145 rfl
def mX12_fewest  (I : Nat → Nat → Int32) (a1 : Int32) (a2 : Int32) (a3 : Int32) : Option (Int32 × (Nat → Nat → Int32)) := (Option.bind (mX12_isPainter I a1) (fun q1 => (if q1 = 0 then (some ((-1 : Int32), I)) else (Option.bind (mX12_isThing I a2) (fun q4 => (if q4 = 0 then (some ((-1 : Int32), I)) else (Option.bind (mX12_in a3.toInt64 (0 : Int64) (6 : Int64)) (fun q7 => (if q7 = 0 then (some ((-1 : Int32), I)) else (mX12_fewest_33 (fun (I_12 : (Nat → Nat → Int32)) (a1_12 : Int32) (a2_12 : Int32) (a3_12 : Int32) => (Option.bind (mX12_isBare I_12 a2_12) (fun q13 => (if q13 = 0 then (mX12_fewest_71 I_12 a1_12 a2_12 a3_12 (-2 : Int32) (1 : Int32)) else (mX12_fewest_71 I_12 a1_12 a2_12 a3_12 (-2 : Int32) (0 : Int32)))))) xf I a1 a2 a3 (0 : Int32)))))))))))
set_option maxHeartbeats 400000 in
set_option maxRecDepth 100000 in
theorem kX12_fewest {E : xE} {B : Nat} {n : Nat} {K : Nat → Nat × Nat} {P : Nat → Nat → Nat} {I : Nat → Nat → Int32} {L : Nat → Nat → Int64}  {a1 : Int32} {a2 : Int32} {a3 : Int32} {q : Int32 × (Nat → Nat → Int32)} (d : Nat) (hd : 3 ≤ d) (G : GW K P)   (hm : mX12_fewest I a1 a2 a3 = some q) : MX E B d 0 0 yX12_fewest cX12_fewest 7 (some .int) [.ref 123, .int a1, .int a2, .int a3] (n, K, P, I, L) (some (.int q.1), (n, K, P, q.2, L)) := by
  refine MX_of (lv := [(0, .ref 123), (1, .int a1), (2, .int a2), (3, .int a3)]) (by decide +kernel) (Nat.le_of_ble_eq_true rfl) rfl ?_
  obtain ⟨d, rfl⟩ : ∃ d0, d = d0 + 1 := ⟨d - 1, by omega⟩
  unfold mX12_fewest at hm
  refine X_aload_n 0 dX12_fewest_0 rfl rfl rfl ?_
  refine X_iload_n 1 dX12_fewest_1 rfl rfl ?_
  obtain ⟨q1, e2, hm⟩ := ob hm
  refine X_cV1 (ci := 11) (kX12_isPainter d (by omega) G e2) ml_X12_423 mi_X12_isPainter rfl cf_11 (g_K123 G) rfl rfl (Nat.le_refl _) ⟨Nat.le_refl _, Nat.le_refl _⟩ (Nat.le_of_ble_eq_true rfl) dX12_fewest_2 ?_
  refine X_if_eq (tgt := 28) dX12_fewest_5 (by decide) (fun c3 => ?_) (fun c3 => ?_)
  · replace hm := ip c3 hm
    refine X_iconst (v := (-1 : Int32)) dX12_fewest_28 (by decide) ?_
    replace hm := Option.some.inj hm
    subst hm
    exact X_iret dX12_fewest_29 rfl
  · replace hm := iq c3 hm
    refine X_aload_n 0 dX12_fewest_8 rfl rfl rfl ?_
    refine X_iload_n 2 dX12_fewest_9 rfl rfl ?_
    obtain ⟨q4, e5, hm⟩ := ob hm
    refine X_cV1 (ci := 11) (kX12_isThing d (by omega) G e5) ml_X12_417 mi_X12_isThing rfl cf_11 (g_K123 G) rfl rfl (Nat.le_refl _) ⟨Nat.le_refl _, Nat.le_refl _⟩ (Nat.le_of_ble_eq_true rfl) dX12_fewest_10 ?_
    refine X_if_eq (tgt := 28) dX12_fewest_13 (by decide) (fun c6 => ?_) (fun c6 => ?_)
    · replace hm := ip c6 hm
      refine X_iconst (v := (-1 : Int32)) dX12_fewest_28 (by decide) ?_
      replace hm := Option.some.inj hm
      subst hm
      exact X_iret dX12_fewest_29 rfl
    · replace hm := iq c6 hm
      refine X_iload_n 3 dX12_fewest_16 rfl rfl ?_
      refine X_i2l dX12_fewest_17 ?_
      refine X_lconst (v := (0 : Int64)) dX12_fewest_18 (by decide) ?_
      refine X_ldc2 lc_X12_513 dX12_fewest_19 ?_
      obtain ⟨q7, e8, hm⟩ := ob hm
      refine X_cS1 (kX12_in d (by omega) G e8) ml_X12_164 ms_X12_in rfl rfl (Nat.le_refl _) ⟨Nat.le_refl _, Nat.le_refl _⟩ (Nat.le_of_ble_eq_true rfl) dX12_fewest_22 ?_
      refine X_if_ne (tgt := 30) dX12_fewest_25 (by decide) (fun c9 => ?_) (fun c9 => ?_)
      · replace hm := iq c9 hm
        refine X_iconst (v := (0 : Int32)) dX12_fewest_30 (by decide) ?_
        refine X_istore (lv' := [(4, .int (0 : Int32)), (0, .ref 123), (1, .int a1), (2, .int a2), (3, .int a3)]) dX12_fewest_31 (by decide) rfl ?_
        refine X_lv [1, 2, 3, 4, 0] rfl (kX12_fewest_33 _ hd G (fun I_12 a1_12 a2_12 a3_12 hm => ?_) xf _ _ _ _ _  hm)
        refine X_bipush (v := (-2 : Int32)) dX12_fewest_54 (by decide) ?_
        refine X_istore (lv' := [(4, .int (-2 : Int32)), (0, .ref 123), (1, .int a1_12), (2, .int a2_12), (3, .int a3_12)]) dX12_fewest_56 (by decide) rfl ?_
        refine X_aload_n 1 dX12_fewest_58 rfl rfl rfl ?_
        refine X_iload_n 3 dX12_fewest_59 rfl rfl ?_
        obtain ⟨q13, e14, hm⟩ := ob hm
        refine X_cV1 (ci := 11) (kX12_isBare d (by omega) G e14) ml_X12_336 mi_X12_isBare rfl cf_11 (g_K123 G) rfl rfl (Nat.le_refl _) ⟨Nat.le_refl _, Nat.le_refl _⟩ (Nat.le_of_ble_eq_true rfl) dX12_fewest_60 ?_
        refine X_if_ne (tgt := 70) dX12_fewest_63 (by decide) (fun c15 => ?_) (fun c15 => ?_)
        · replace hm := iq c15 hm
          refine X_iconst (v := (0 : Int32)) dX12_fewest_70 (by decide) ?_
          exact X_lv [1, 2, 3, 4, 0] rfl (kX12_fewest_71 _ hd G hm)
        · replace hm := ip c15 hm
          refine X_iconst (v := (1 : Int32)) dX12_fewest_66 (by decide) ?_
          refine X_goto (tgt := 71) dX12_fewest_67 (by decide) ?_
          exact X_lv [1, 2, 3, 4, 0] rfl (kX12_fewest_71 _ hd G hm)
      · replace hm := ip c9 hm
        refine X_iconst (v := (-1 : Int32)) dX12_fewest_28 (by decide) ?_
        replace hm := Option.some.inj hm
        subst hm
        exact X_iret dX12_fewest_29 rfl
def mX12_when_35 (I : Nat → Nat → Int32) (e71 : Int32 → Int32 → Option (Int32)) : Nat → Int32 → Int32 → Int32 → Option (Int32)
  | 0, _, _, _ => none
  | f + 1, a1, a2, a3 => (if (a1 + (I 124 0)) ≤ a3 then (e71 a1 a2) else (if a2 = 0 then (mX12_when_35 I e71 f a1 (0 : Int32) (a3 + 1)) else (Option.bind (mX12_rains I a3) (fun q7 => (if q7 = 0 then (mX12_when_35 I e71 f a1 (1 : Int32) (a3 + 1)) else (mX12_when_35 I e71 f a1 (0 : Int32) (a3 + 1)))))))
set_option maxHeartbeats 400000 in
set_option maxRecDepth 100000 in
theorem kX12_when_35 {E : xE} {B : Nat} {n : Nat} {K : Nat → Nat × Nat} {P : Nat → Nat → Nat} {I : Nat → Nat → Int32} {L : Nat → Nat → Int64}  {e71 : Int32 → Int32 → Option (Int32)} {q : Int32} (d : Nat) (hd : 2 ≤ d) (G : GW K P)  (he71 : ∀ (a1 : Int32) (a2 : Int32), e71 a1 a2 = some q → X E B d 0 0 yX12_when cX12_when 4 (some .int) (some (.int q), (n, K, P, I, L)) 71 [(0, .ref 123), (1, .int a1), (2, .int a2)] [] 0 0 (n, K, P, I, L)) : ∀ (f : Nat) (a1 : Int32) (a2 : Int32) (a3 : Int32), mX12_when_35 I e71 f a1 a2 a3 = some q → X E B d 0 0 yX12_when cX12_when 4 (some .int) (some (.int q), (n, K, P, I, L)) 35 [(0, .ref 123), (1, .int a1), (2, .int a2), (3, .int a3)] [] 0 0 (n, K, P, I, L) := by
  obtain ⟨d, rfl⟩ : ∃ d0, d = d0 + 1 := ⟨d - 1, by omega⟩
  intro f
  induction f with
  | zero => intro _ _ _ hm; exact nomatch (show (none : Option (Int32)) = some q from hm)
  | succ f ih =>
    intro a1 a2 a3 hm
    rw [mX12_when_35] at hm
    refine X_iload_n 3 dX12_when_35 rfl rfl ?_
    refine X_iload_n 1 dX12_when_36 rfl rfl ?_
    refine X_aload_n 0 dX12_when_37 rfl rfl rfl ?_
    refine X_getPe fl_X12_9 (g_K123 G) rfl (g_P123_1 G) dX12_when_38 ?_
    refine X_iconst (v := (0 : Int32)) dX12_when_41 (by decide) ?_
    refine X_ialdJ (j := 0) (g_K124 G) rfl (by decide) dX12_when_42 ?_
    refine X_iadd dX12_when_43 ?_
    refine X_icmp_ge (tgt := 71) dX12_when_44 (by decide) (fun c5 => ?_) (fun c5 => ?_)
    · replace hm := ip c5 hm
      exact X_lv [0, 1, 2] rfl (he71 _ _ hm)
    · replace hm := iq c5 hm
      refine X_iload_n 2 dX12_when_47 rfl rfl ?_
      refine X_if_eq (tgt := 63) dX12_when_48 (by decide) (fun c6 => ?_) (fun c6 => ?_)
      · replace hm := ip c6 hm
        refine X_iconst (v := (0 : Int32)) dX12_when_63 (by decide) ?_
        refine X_istore_n (lv' := [(2, .int (0 : Int32)), (0, .ref 123), (1, .int a1), (3, .int a3)]) dX12_when_64 rfl (by decide) rfl ?_
        refine X_iinc (lv' := [(3, .int (a3 + 1)), (2, .int (0 : Int32)), (0, .ref 123), (1, .int a1)]) 3 dX12_when_65 rfl rfl (by decide) rfl ?_
        refine X_goto (tgt := 35) dX12_when_68 (by decide) ?_
        exact X_lv [2, 3, 1, 0] rfl (ih _ _ _ hm)
      · replace hm := iq c6 hm
        refine X_aload_n 0 dX12_when_51 rfl rfl rfl ?_
        refine X_iload_n 3 dX12_when_52 rfl rfl ?_
        obtain ⟨q7, e8, hm⟩ := ob hm
        refine X_cV1 (ci := 11) (kX12_rains d (by omega) G e8) ml_X12_432 mi_X12_rains rfl cf_11 (g_K123 G) rfl rfl (Nat.le_refl _) ⟨Nat.le_refl _, Nat.le_refl _⟩ (Nat.le_of_ble_eq_true rfl) dX12_when_53 ?_
        refine X_if_ne (tgt := 63) dX12_when_56 (by decide) (fun c9 => ?_) (fun c9 => ?_)
        · replace hm := iq c9 hm
          refine X_iconst (v := (0 : Int32)) dX12_when_63 (by decide) ?_
          refine X_istore_n (lv' := [(2, .int (0 : Int32)), (0, .ref 123), (1, .int a1), (3, .int a3)]) dX12_when_64 rfl (by decide) rfl ?_
          refine X_iinc (lv' := [(3, .int (a3 + 1)), (2, .int (0 : Int32)), (0, .ref 123), (1, .int a1)]) 3 dX12_when_65 rfl rfl (by decide) rfl ?_
          refine X_goto (tgt := 35) dX12_when_68 (by decide) ?_
          exact X_lv [2, 3, 1, 0] rfl (ih _ _ _ hm)
        · replace hm := ip c9 hm
          refine X_iconst (v := (1 : Int32)) dX12_when_59 (by decide) ?_
          refine X_goto (tgt := 64) dX12_when_60 (by decide) ?_
          refine X_istore_n (lv' := [(2, .int (1 : Int32)), (0, .ref 123), (1, .int a1), (3, .int a3)]) dX12_when_64 rfl (by decide) rfl ?_
          refine X_iinc (lv' := [(3, .int (a3 + 1)), (2, .int (1 : Int32)), (0, .ref 123), (1, .int a1)]) 3 dX12_when_65 rfl rfl (by decide) rfl ?_
          refine X_goto (tgt := 35) dX12_when_68 (by decide) ?_
          exact X_lv [2, 3, 1, 0] rfl (ih _ _ _ hm)
def mX12_when_17 (I : Nat → Nat → Int32)  : Nat → Int32 → Option (Int32)
  | 0, _ => none
  | f + 1, a1 => (if ((I 124 9) + (60 : Int32)) ≤ a1 then (some (-2 : Int32)) else (mX12_when_35 I (fun (a1_10 : Int32) (a2_10 : Int32) => (if a2_10 = 0 then (mX12_when_17 I f (a1_10 + 1)) else (some a1_10))) xf a1 (1 : Int32) a1))
set_option maxHeartbeats 400000 in
set_option maxRecDepth 100000 in
theorem kX12_when_17 {E : xE} {B : Nat} {n : Nat} {K : Nat → Nat × Nat} {P : Nat → Nat → Nat} {I : Nat → Nat → Int32} {L : Nat → Nat → Int64}   {q : Int32} (d : Nat) (hd : 2 ≤ d) (G : GW K P)   : ∀ (f : Nat) (a1 : Int32), mX12_when_17 I f a1 = some q → X E B d 0 0 yX12_when cX12_when 4 (some .int) (some (.int q), (n, K, P, I, L)) 17 [(0, .ref 123), (1, .int a1)] [] 0 0 (n, K, P, I, L) := by
  obtain ⟨d, rfl⟩ : ∃ d0, d = d0 + 1 := ⟨d - 1, by omega⟩
  intro f
  induction f with
  | zero => intro _ hm; exact nomatch (show (none : Option (Int32)) = some q from hm)
  | succ f ih =>
    intro a1 hm
    rw [mX12_when_17] at hm
    refine X_iload_n 1 dX12_when_17 rfl rfl ?_
    refine X_aload_n 0 dX12_when_18 rfl rfl rfl ?_
    refine X_getPe fl_X12_9 (g_K123 G) rfl (g_P123_1 G) dX12_when_19 ?_
    refine X_bipush (v := (9 : Int32)) dX12_when_22 (by decide) ?_
    refine X_ialdJ (j := 9) (g_K124 G) rfl (by decide) dX12_when_24 ?_
    refine X_bipush (v := (60 : Int32)) dX12_when_25 (by decide) ?_
    refine X_iadd dX12_when_27 ?_
    refine X_icmp_ge (tgt := 83) dX12_when_28 (by decide) (fun c4 => ?_) (fun c4 => ?_)
    · replace hm := ip c4 hm
      refine X_bipush (v := (-2 : Int32)) dX12_when_83 (by decide) ?_
      replace hm := Option.some.inj hm
      subst hm
      exact X_iret dX12_when_85 rfl
    · replace hm := iq c4 hm
      refine X_iconst (v := (1 : Int32)) dX12_when_31 (by decide) ?_
      refine X_istore_n (lv' := [(2, .int (1 : Int32)), (0, .ref 123), (1, .int a1)]) dX12_when_32 rfl (by decide) rfl ?_
      refine X_iload_n 2 dX12_when_33 rfl rfl ?_
      refine X_istore_n (lv' := [(3, .int a1), (2, .int (1 : Int32)), (0, .ref 123), (1, .int a1)]) dX12_when_34 rfl (by decide) rfl ?_
      refine X_lv [2, 3, 1, 0] rfl (kX12_when_35 _ hd G (fun a1_10 a2_10 hm => ?_) xf _ _ _  hm)
      refine X_iload_n 2 dX12_when_71 rfl rfl ?_
      refine X_if_eq (tgt := 77) dX12_when_72 (by decide) (fun c11 => ?_) (fun c11 => ?_)
      · replace hm := ip c11 hm
        refine X_iinc (lv' := [(1, .int (a1_10 + 1)), (0, .ref 123), (2, .int a2_10)]) 1 dX12_when_77 rfl rfl (by decide) rfl ?_
        refine X_goto (tgt := 17) dX12_when_80 (by decide) ?_
        exact X_lv [1, 0] rfl (ih _ hm)
      · replace hm := iq c11 hm
        refine X_iload_n 1 dX12_when_75 rfl rfl ?_
        replace hm := Option.some.inj hm
        subst hm
        exact X_iret dX12_when_76 rfl
def mX12_when (I : Nat → Nat → Int32)  : Option (Int32) := (Option.bind (mX12_isStreet I) (fun q1 => (if q1 = 0 then (some (-1 : Int32)) else (mX12_when_17 I xf (I 124 9)))))
set_option maxHeartbeats 400000 in
set_option maxRecDepth 100000 in
theorem kX12_when {E : xE} {B : Nat} {n : Nat} {K : Nat → Nat × Nat} {P : Nat → Nat → Nat} {I : Nat → Nat → Int32} {L : Nat → Nat → Int64}   {q : Int32} (d : Nat) (hd : 2 ≤ d) (G : GW K P)   (hm : mX12_when I = some q) : MX E B d 0 0 yX12_when cX12_when 4 (some .int) [.ref 123] (n, K, P, I, L) (some (.int q), (n, K, P, I, L)) := by
  refine MX_of (lv := [(0, .ref 123)]) (by decide +kernel) (Nat.le_of_ble_eq_true rfl) rfl ?_
  obtain ⟨d, rfl⟩ : ∃ d0, d = d0 + 1 := ⟨d - 1, by omega⟩
  unfold mX12_when at hm
  refine X_aload_n 0 dX12_when_0 rfl rfl rfl ?_
  obtain ⟨q1, e2, hm⟩ := ob hm
  refine X_cV1 (ci := 11) (kX12_isStreet d (by omega) G e2) ml_X12_429 mi_X12_isStreet rfl cf_11 (g_K123 G) rfl rfl (Nat.le_refl _) ⟨Nat.le_refl _, Nat.le_refl _⟩ (Nat.le_of_ble_eq_true rfl) dX12_when_1 ?_
  refine X_if_ne (tgt := 9) dX12_when_4 (by decide) (fun c3 => ?_) (fun c3 => ?_)
  · replace hm := iq c3 hm
    refine X_aload_n 0 dX12_when_9 rfl rfl rfl ?_
    refine X_getPe fl_X12_9 (g_K123 G) rfl (g_P123_1 G) dX12_when_10 ?_
    refine X_bipush (v := (9 : Int32)) dX12_when_13 (by decide) ?_
    refine X_ialdJ (j := 9) (g_K124 G) rfl (by decide) dX12_when_15 ?_
    refine X_istore_n (lv' := [(1, .int (I 124 9)), (0, .ref 123)]) dX12_when_16 rfl (by decide) rfl ?_
    refine X_lv [1, 0] rfl (kX12_when_17 _ hd G xf _  hm)
  · replace hm := ip c3 hm
    refine X_iconst (v := (-1 : Int32)) dX12_when_7 (by decide) ?_
    replace hm := Option.some.inj hm
    subst hm
    exact X_iret dX12_when_8 rfl
def mX12_gameEnd_51 (b3 : (Nat → Nat → Int32) → Int32 → Int32 → Int32 → Int32 → Int32 → Option (Int32 × (Nat → Nat → Int32))) (e61 : (Nat → Nat → Int32) → Int32 → Int32 → Int32 → Option (Int32 × (Nat → Nat → Int32))) (I : Nat → Nat → Int32) (a1 : Int32) (a2 : Int32) (a3 : Int32) (a4 : Int32) (a5 : Int32) : Option (Int32 × (Nat → Nat → Int32)) := (Option.bind (mX12_ends I) (fun q4 => (b3 q4 a1 a2 a3 a4 (a5 + 1))))
set_option maxHeartbeats 400000 in
set_option maxRecDepth 100000 in
theorem kX12_gameEnd_51 {E : xE} {B : Nat} {n : Nat} {K : Nat → Nat × Nat} {P : Nat → Nat → Nat} {I : Nat → Nat → Int32} {L : Nat → Nat → Int64}  {b3 : (Nat → Nat → Int32) → Int32 → Int32 → Int32 → Int32 → Int32 → Option (Int32 × (Nat → Nat → Int32))} {e61 : (Nat → Nat → Int32) → Int32 → Int32 → Int32 → Option (Int32 × (Nat → Nat → Int32))} {a1 : Int32} {a2 : Int32} {a3 : Int32} {a4 : Int32} {a5 : Int32} {q : Int32 × (Nat → Nat → Int32)} (d : Nat) (hd : 6 ≤ d) (G : GW K P)  (hb3 : ∀ (I : Nat → Nat → Int32) (a1 : Int32) (a2 : Int32) (a3 : Int32) (a4 : Int32) (a5 : Int32), b3 I a1 a2 a3 a4 a5 = some q → X E B d 0 0 yX12_gameEnd cX12_gameEnd 6 (some .int) (some (.int q.1), (n, K, P, q.2, L)) 3 [(0, .ref 123), (1, .int a1), (2, .int a2), (3, .int a3), (4, .int a4), (5, .int a5)] [] 0 0 (n, K, P, I, L)) (he61 : ∀ (I : Nat → Nat → Int32) (a1 : Int32) (a2 : Int32) (a3 : Int32), e61 I a1 a2 a3 = some q → X E B d 0 0 yX12_gameEnd cX12_gameEnd 6 (some .int) (some (.int q.1), (n, K, P, q.2, L)) 61 [(0, .ref 123), (1, .int a1), (2, .int a2), (3, .int a3)] [] 0 0 (n, K, P, I, L))  (hm : mX12_gameEnd_51 b3 e61 I a1 a2 a3 a4 a5 = some q) : X E B d 0 0 yX12_gameEnd cX12_gameEnd 6 (some .int) (some (.int q.1), (n, K, P, q.2, L)) 51 [(0, .ref 123), (1, .int a1), (2, .int a2), (3, .int a3), (4, .int a4), (5, .int a5)] [] 0 0 (n, K, P, I, L) := by
  obtain ⟨d, rfl⟩ : ∃ d0, d = d0 + 1 := ⟨d - 1, by omega⟩
  unfold mX12_gameEnd_51 at hm
  refine X_aload_n 0 dX12_gameEnd_51 rfl rfl rfl ?_
  obtain ⟨q4, e5, hm⟩ := ob hm
  refine X_cV0 (ci := 11) (kX12_ends d (by omega) G e5) ml_X12_457 mi_X12_ends rfl cf_11 (g_K123 G) rfl rfl (Nat.le_refl _) ⟨Nat.le_refl _, Nat.le_refl _⟩ (Nat.le_of_ble_eq_true rfl) dX12_gameEnd_52 ?_
  refine X_iinc (lv' := [(5, .int (a5 + 1)), (0, .ref 123), (1, .int a1), (2, .int a2), (3, .int a3), (4, .int a4)]) 5 dX12_gameEnd_55 rfl rfl (by decide) rfl ?_
  refine X_goto (tgt := 3) dX12_gameEnd_58 (by decide) ?_
  exact X_lv [1, 2, 3, 4, 5, 0] rfl (hb3 _ _ _ _ _ _ hm)
def mX12_gameEnd_48 (b3 : (Nat → Nat → Int32) → Int32 → Int32 → Int32 → Int32 → Int32 → Option (Int32 × (Nat → Nat → Int32))) (e61 : (Nat → Nat → Int32) → Int32 → Int32 → Int32 → Option (Int32 × (Nat → Nat → Int32))) (I : Nat → Nat → Int32) (a1 : Int32) (a2 : Int32) (a3 : Int32) (a4 : Int32) (a5 : Int32) (t0 : Int32) (t1 : Int32) : Option (Int32 × (Nat → Nat → Int32)) := (Option.bind (mX12_paints I t1 t0) (fun q9 => (mX12_gameEnd_51 b3 e61 q9 a1 a2 a3 a4 a5)))
set_option maxHeartbeats 400000 in
set_option maxRecDepth 100000 in
theorem kX12_gameEnd_48 {E : xE} {B : Nat} {n : Nat} {K : Nat → Nat × Nat} {P : Nat → Nat → Nat} {I : Nat → Nat → Int32} {L : Nat → Nat → Int64}  {b3 : (Nat → Nat → Int32) → Int32 → Int32 → Int32 → Int32 → Int32 → Option (Int32 × (Nat → Nat → Int32))} {e61 : (Nat → Nat → Int32) → Int32 → Int32 → Int32 → Option (Int32 × (Nat → Nat → Int32))} {a1 : Int32} {a2 : Int32} {a3 : Int32} {a4 : Int32} {a5 : Int32} {t0 : Int32} {t1 : Int32} {q : Int32 × (Nat → Nat → Int32)} (d : Nat) (hd : 6 ≤ d) (G : GW K P)  (hb3 : ∀ (I : Nat → Nat → Int32) (a1 : Int32) (a2 : Int32) (a3 : Int32) (a4 : Int32) (a5 : Int32), b3 I a1 a2 a3 a4 a5 = some q → X E B d 0 0 yX12_gameEnd cX12_gameEnd 6 (some .int) (some (.int q.1), (n, K, P, q.2, L)) 3 [(0, .ref 123), (1, .int a1), (2, .int a2), (3, .int a3), (4, .int a4), (5, .int a5)] [] 0 0 (n, K, P, I, L)) (he61 : ∀ (I : Nat → Nat → Int32) (a1 : Int32) (a2 : Int32) (a3 : Int32), e61 I a1 a2 a3 = some q → X E B d 0 0 yX12_gameEnd cX12_gameEnd 6 (some .int) (some (.int q.1), (n, K, P, q.2, L)) 61 [(0, .ref 123), (1, .int a1), (2, .int a2), (3, .int a3)] [] 0 0 (n, K, P, I, L))  (hm : mX12_gameEnd_48 b3 e61 I a1 a2 a3 a4 a5 t0 t1 = some q) : X E B d 0 0 yX12_gameEnd cX12_gameEnd 6 (some .int) (some (.int q.1), (n, K, P, q.2, L)) 48 [(0, .ref 123), (1, .int a1), (2, .int a2), (3, .int a3), (4, .int a4), (5, .int a5)] [.int t0, .int t1, .ref 123] 0 0 (n, K, P, I, L) := by
  obtain ⟨d, rfl⟩ : ∃ d0, d = d0 + 1 := ⟨d - 1, by omega⟩
  unfold mX12_gameEnd_48 at hm
  obtain ⟨q9, e10, hm⟩ := ob hm
  refine X_cV0 (ci := 11) (kX12_paints d (by omega) G e10) ml_X12_448 mi_X12_paints rfl cf_11 (g_K123 G) rfl rfl (Nat.le_refl _) ⟨Nat.le_refl _, Nat.le_refl _⟩ (Nat.le_of_ble_eq_true rfl) dX12_gameEnd_48 ?_
  exact kX12_gameEnd_51 _ hd G hb3 he61 hm
def mX12_gameEnd_3  (e61 : (Nat → Nat → Int32) → Int32 → Int32 → Int32 → Option (Int32 × (Nat → Nat → Int32))) : Nat → (Nat → Nat → Int32) → Int32 → Int32 → Int32 → Int32 → Int32 → Option (Int32 × (Nat → Nat → Int32))
  | 0, _, _, _, _, _, _ => none
  | f + 1, I, a1, a2, a3, a4, a5 => (if a4 ≤ a5 then (e61 I a1 a2 a3) else (if inb a5 5 = true then (if (I 166 (ix a5)) = (-1 : Int32) then (mX12_gameEnd_51 (fun (I : Nat → Nat → Int32) (a1 : Int32) (a2 : Int32) (a3 : Int32) (a4 : Int32) (a5 : Int32) => mX12_gameEnd_3 e61 f I a1 a2 a3 a4 a5) e61 I a1 a2 a3 a4 a5) else (if inb a3 5 = true then (if inb a5 5 = true then (if (xrem a5 (2 : Int32)) = 0 then (mX12_gameEnd_48 (fun (I : Nat → Nat → Int32) (a1 : Int32) (a2 : Int32) (a3 : Int32) (a4 : Int32) (a5 : Int32) => mX12_gameEnd_3 e61 f I a1 a2 a3 a4 a5) e61 I a1 a2 a3 a4 a5 a1 ((I 125 (ix a3)) + (I 166 (ix a5)))) else (mX12_gameEnd_48 (fun (I : Nat → Nat → Int32) (a1 : Int32) (a2 : Int32) (a3 : Int32) (a4 : Int32) (a5 : Int32) => mX12_gameEnd_3 e61 f I a1 a2 a3 a4 a5) e61 I a1 a2 a3 a4 a5 a2 ((I 125 (ix a3)) + (I 166 (ix a5))))) else none) else none)) else none))
set_option maxHeartbeats 400000 in
set_option maxRecDepth 100000 in
theorem kX12_gameEnd_3 {E : xE} {B : Nat} {n : Nat} {K : Nat → Nat × Nat} {P : Nat → Nat → Nat} {L : Nat → Nat → Int64}  {e61 : (Nat → Nat → Int32) → Int32 → Int32 → Int32 → Option (Int32 × (Nat → Nat → Int32))} {q : Int32 × (Nat → Nat → Int32)} (d : Nat) (hd : 6 ≤ d) (G : GW K P)  (he61 : ∀ (I : Nat → Nat → Int32) (a1 : Int32) (a2 : Int32) (a3 : Int32), e61 I a1 a2 a3 = some q → X E B d 0 0 yX12_gameEnd cX12_gameEnd 6 (some .int) (some (.int q.1), (n, K, P, q.2, L)) 61 [(0, .ref 123), (1, .int a1), (2, .int a2), (3, .int a3)] [] 0 0 (n, K, P, I, L)) : ∀ (f : Nat) (I : Nat → Nat → Int32) (a1 : Int32) (a2 : Int32) (a3 : Int32) (a4 : Int32) (a5 : Int32), mX12_gameEnd_3 e61 f I a1 a2 a3 a4 a5 = some q → X E B d 0 0 yX12_gameEnd cX12_gameEnd 6 (some .int) (some (.int q.1), (n, K, P, q.2, L)) 3 [(0, .ref 123), (1, .int a1), (2, .int a2), (3, .int a3), (4, .int a4), (5, .int a5)] [] 0 0 (n, K, P, I, L) := by
  obtain ⟨d, rfl⟩ : ∃ d0, d = d0 + 1 := ⟨d - 1, by omega⟩
  intro f
  induction f with
  | zero => intro _ _ _ _ _ _ hm; exact nomatch (show (none : Option (Int32 × (Nat → Nat → Int32))) = some q from hm)
  | succ f ih =>
    intro I a1 a2 a3 a4 a5 hm
    rw [mX12_gameEnd_3] at hm
    refine X_iload 5 dX12_gameEnd_3 rfl ?_
    refine X_iload 4 dX12_gameEnd_5 rfl ?_
    refine X_icmp_ge (tgt := 61) dX12_gameEnd_7 (by decide) (fun c1 => ?_) (fun c1 => ?_)
    · replace hm := ip c1 hm
      exact X_lv [0, 1, 2, 3] rfl (he61 _ _ _ _ hm)
    · replace hm := iq c1 hm
      refine X_aload_n 0 dX12_gameEnd_10 rfl rfl rfl ?_
      refine X_getPe fl_X12_142 (g_K123 G) rfl (g_P123_56 G) dX12_gameEnd_11 ?_
      refine X_iload 5 dX12_gameEnd_14 rfl ?_
      obtain ⟨g2, hm⟩ := og hm
      refine X_ialdJ (g_K166 G) g2 rfl dX12_gameEnd_16 ?_
      refine X_iconst (v := (-1 : Int32)) dX12_gameEnd_17 (by decide) ?_
      refine X_icmp_eq (tgt := 51) dX12_gameEnd_18 (by decide) (fun c3 => ?_) (fun c3 => ?_)
      · replace hm := ip c3 hm
        exact kX12_gameEnd_51 _ hd G ih he61 hm
      · replace hm := iq c3 hm
        refine X_aload_n 0 dX12_gameEnd_21 rfl rfl rfl ?_
        refine X_aload_n 0 dX12_gameEnd_22 rfl rfl rfl ?_
        refine X_getPe fl_X12_13 (g_K123 G) rfl (g_P123_2 G) dX12_gameEnd_23 ?_
        refine X_iload_n 3 dX12_gameEnd_26 rfl rfl ?_
        obtain ⟨g6, hm⟩ := og hm
        refine X_ialdJ (g_K125 G) g6 rfl dX12_gameEnd_27 ?_
        refine X_aload_n 0 dX12_gameEnd_28 rfl rfl rfl ?_
        refine X_getPe fl_X12_142 (g_K123 G) rfl (g_P123_56 G) dX12_gameEnd_29 ?_
        refine X_iload 5 dX12_gameEnd_32 rfl ?_
        obtain ⟨g7, hm⟩ := og hm
        refine X_ialdJ (g_K166 G) g7 rfl dX12_gameEnd_34 ?_
        refine X_iadd dX12_gameEnd_35 ?_
        refine X_iload 5 dX12_gameEnd_36 rfl ?_
        refine X_iconst (v := (2 : Int32)) dX12_gameEnd_38 (by decide) ?_
        refine X_irem dX12_gameEnd_39 (by decide) ?_
        refine X_if_ne (tgt := 47) dX12_gameEnd_40 (by decide) (fun c8 => ?_) (fun c8 => ?_)
        · replace hm := iq c8 hm
          refine X_iload_n 2 dX12_gameEnd_47 rfl rfl ?_
          exact kX12_gameEnd_48 _ hd G ih he61 hm
        · replace hm := ip c8 hm
          refine X_iload_n 1 dX12_gameEnd_43 rfl rfl ?_
          refine X_goto (tgt := 48) dX12_gameEnd_44 (by decide) ?_
          exact kX12_gameEnd_48 _ hd G ih he61 hm
def mX12_gameEnd  (I : Nat → Nat → Int32) (a1 : Int32) (a2 : Int32) (a3 : Int32) (a4 : Int32) : Option (Int32 × (Nat → Nat → Int32)) := (mX12_gameEnd_3 (fun (I_11 : (Nat → Nat → Int32)) (a1_11 : Int32) (a2_11 : Int32) (a3_11 : Int32) => (Option.bind (mX12_idles I_11 (I_11 124 0)) (fun q12 => (Option.bind (mX12_countsCells q12 a3_11 (q12 124 9) (0 : Int32)) (fun q14 => (if inb a1_11 4 = true then (if inb a2_11 4 = true then (Option.bind (mX12_laysBack q14) (fun q18 => (some (((q14 160 (ix a1_11)) - (q14 160 (ix a2_11))), q18)))) else none) else none)))))) xf I a1 a2 a3 a4 (0 : Int32))
set_option maxHeartbeats 400000 in
set_option maxRecDepth 100000 in
theorem kX12_gameEnd {E : xE} {B : Nat} {n : Nat} {K : Nat → Nat × Nat} {P : Nat → Nat → Nat} {I : Nat → Nat → Int32} {L : Nat → Nat → Int64}  {a1 : Int32} {a2 : Int32} {a3 : Int32} {a4 : Int32} {q : Int32 × (Nat → Nat → Int32)} (d : Nat) (hd : 6 ≤ d) (G : GW K P)   (hm : mX12_gameEnd I a1 a2 a3 a4 = some q) : MX E B d 0 0 yX12_gameEnd cX12_gameEnd 6 (some .int) [.ref 123, .int a1, .int a2, .int a3, .int a4] (n, K, P, I, L) (some (.int q.1), (n, K, P, q.2, L)) := by
  refine MX_of (lv := [(0, .ref 123), (1, .int a1), (2, .int a2), (3, .int a3), (4, .int a4)]) (by decide +kernel) (Nat.le_of_ble_eq_true rfl) rfl ?_
  obtain ⟨d, rfl⟩ : ∃ d0, d = d0 + 1 := ⟨d - 1, by omega⟩
  unfold mX12_gameEnd at hm
  refine X_iconst (v := (0 : Int32)) dX12_gameEnd_0 (by decide) ?_
  refine X_istore (lv' := [(5, .int (0 : Int32)), (0, .ref 123), (1, .int a1), (2, .int a2), (3, .int a3), (4, .int a4)]) dX12_gameEnd_1 (by decide) rfl ?_
  refine X_lv [1, 2, 3, 4, 5, 0] rfl (kX12_gameEnd_3 _ hd G (fun I_11 a1_11 a2_11 a3_11 hm => ?_) xf _ _ _ _ _ _  hm)
  refine X_aload_n 0 dX12_gameEnd_61 rfl rfl rfl ?_
  refine X_aload_n 0 dX12_gameEnd_62 rfl rfl rfl ?_
  refine X_getPe fl_X12_9 (g_K123 G) rfl (g_P123_1 G) dX12_gameEnd_63 ?_
  refine X_iconst (v := (0 : Int32)) dX12_gameEnd_66 (by decide) ?_
  refine X_ialdJ (j := 0) (g_K124 G) rfl (by decide) dX12_gameEnd_67 ?_
  obtain ⟨q12, e13, hm⟩ := ob hm
  refine X_cV0 (ci := 11) (kX12_idles d (by omega) G e13) ml_X12_501 mi_X12_idles rfl cf_11 (g_K123 G) rfl rfl (Nat.le_refl _) ⟨Nat.le_refl _, Nat.le_refl _⟩ (Nat.le_of_ble_eq_true rfl) dX12_gameEnd_68 ?_
  refine X_aload_n 0 dX12_gameEnd_71 rfl rfl rfl ?_
  refine X_iload_n 3 dX12_gameEnd_72 rfl rfl ?_
  refine X_aload_n 0 dX12_gameEnd_73 rfl rfl rfl ?_
  refine X_getPe fl_X12_9 (g_K123 G) rfl (g_P123_1 G) dX12_gameEnd_74 ?_
  refine X_bipush (v := (9 : Int32)) dX12_gameEnd_77 (by decide) ?_
  refine X_ialdJ (j := 9) (g_K124 G) rfl (by decide) dX12_gameEnd_79 ?_
  refine X_iconst (v := (0 : Int32)) dX12_gameEnd_80 (by decide) ?_
  obtain ⟨q14, e15, hm⟩ := ob hm
  refine X_cV0 (ci := 11) (kX12_countsCells d (by omega) G e15) ml_X12_392 mi_X12_countsCells rfl cf_11 (g_K123 G) rfl rfl (Nat.le_refl _) ⟨Nat.le_refl _, Nat.le_refl _⟩ (Nat.le_of_ble_eq_true rfl) dX12_gameEnd_81 ?_
  refine X_aload_n 0 dX12_gameEnd_84 rfl rfl rfl ?_
  refine X_getPe fl_X12_124 (g_K123 G) rfl (g_P123_47 G) dX12_gameEnd_85 ?_
  refine X_iload_n 1 dX12_gameEnd_88 rfl rfl ?_
  obtain ⟨g16, hm⟩ := og hm
  refine X_ialdJ (g_K160 G) g16 rfl dX12_gameEnd_89 ?_
  refine X_aload_n 0 dX12_gameEnd_90 rfl rfl rfl ?_
  refine X_getPe fl_X12_124 (g_K123 G) rfl (g_P123_47 G) dX12_gameEnd_91 ?_
  refine X_iload_n 2 dX12_gameEnd_94 rfl rfl ?_
  obtain ⟨g17, hm⟩ := og hm
  refine X_ialdJ (g_K160 G) g17 rfl dX12_gameEnd_95 ?_
  refine X_isub dX12_gameEnd_96 ?_
  refine X_istore (lv' := [(5, .int ((q14 160 (ix a1_11)) - (q14 160 (ix a2_11)))), (0, .ref 123), (1, .int a1_11), (2, .int a2_11), (3, .int a3_11)]) dX12_gameEnd_97 (by decide) rfl ?_
  refine X_aload_n 1 dX12_gameEnd_99 rfl rfl rfl ?_
  obtain ⟨q18, e19, hm⟩ := ob hm
  refine X_cV0 (ci := 11) (kX12_laysBack d (by omega) G e19) ml_X12_497 mi_X12_laysBack rfl cf_11 (g_K123 G) rfl rfl (Nat.le_refl _) ⟨Nat.le_refl _, Nat.le_refl _⟩ (Nat.le_of_ble_eq_true rfl) dX12_gameEnd_100 ?_
  refine X_iload 0 dX12_gameEnd_103 rfl ?_
  replace hm := Option.some.inj hm
  subst hm
  exact X_iret dX12_gameEnd_105 rfl
def mX12_takesValue_46  (I : Nat → Nat → Int32) (a1 : Int32) (a2 : Int32) (a3 : Int32) (t0 : Int32) : Option ((Nat → Nat → Int32)) := (if t0 = 0 then (some I) else (if inb a1 5 = true then (if a1 = 0 then (if ((xu I 167 (ix a1) a2) 166 0) = (-1 : Int32) then (some (xu (xu I 167 (ix a1) a2) 123 58 (-1 : Int32))) else (if inb a3 5 = true then (some (xu (xu I 167 (ix a1) a2) 123 58 (((xu I 167 (ix a1) a2) 125 (ix a3)) + ((xu I 167 (ix a1) a2) 166 0)))) else none)) else (some (xu (xu I 167 (ix a1) a2) 123 58 ((xu I 167 (ix a1) a2) 123 58)))) else none))
set_option maxHeartbeats 400000 in
set_option maxRecDepth 100000 in
theorem kX12_takesValue_46 {E : xE} {B : Nat} {n : Nat} {K : Nat → Nat × Nat} {P : Nat → Nat → Nat} {I : Nat → Nat → Int32} {L : Nat → Nat → Int64}   {a1 : Int32} {a2 : Int32} {a3 : Int32} {t0 : Int32} {q : (Nat → Nat → Int32)} (d : Nat) (hd : 0 ≤ d) (G : GW K P)    (hm : mX12_takesValue_46 I a1 a2 a3 t0 = some q) : X E B d 0 0 yX12_takesValue cX12_takesValue 5 (none : Option Jvm.ClassFile.FieldType) (none, (n, K, P, q, L)) 46 [(0, .ref 123), (1, .int a1), (2, .int a2), (3, .int a3)] [.int t0] 0 0 (n, K, P, I, L) := by
  unfold mX12_takesValue_46 at hm
  refine X_istore (lv' := [(4, .int t0), (0, .ref 123), (1, .int a1), (2, .int a2), (3, .int a3)]) dX12_takesValue_46 (by decide) rfl ?_
  refine X_iload 0 dX12_takesValue_48 rfl ?_
  refine X_if_eq (tgt := 102) dX12_takesValue_50 (by decide) (fun c3 => ?_) (fun c3 => ?_)
  · replace hm := ip c3 hm
    replace hm := Option.some.inj hm
    subst hm
    exact X_vret dX12_takesValue_102 rfl
  · replace hm := iq c3 hm
    refine X_aload_n 1 dX12_takesValue_53 rfl rfl rfl ?_
    refine X_getPe fl_X12_145 (g_K123 G) rfl (g_P123_57 G) dX12_takesValue_54 ?_
    refine X_iload_n 2 dX12_takesValue_57 rfl rfl ?_
    refine X_iload_n 3 dX12_takesValue_58 rfl rfl ?_
    obtain ⟨g4, hm⟩ := og hm
    refine X_iastJ (g_K167 G) g4 rfl dX12_takesValue_59 ?_
    refine X_aload_n 1 dX12_takesValue_60 rfl rfl rfl ?_
    refine X_iload_n 2 dX12_takesValue_61 rfl rfl ?_
    refine X_if_ne (tgt := 95) dX12_takesValue_62 (by decide) (fun c5 => ?_) (fun c5 => ?_)
    · replace hm := iq c5 hm
      refine X_aload_n 1 dX12_takesValue_95 rfl rfl rfl ?_
      refine X_getI fl_X12_524 (g_K123 G) rfl dX12_takesValue_96 ?_
      refine X_putI fl_X12_524 (g_K123 G) rfl rfl dX12_takesValue_99 ?_
      replace hm := Option.some.inj hm
      subst hm
      exact X_vret dX12_takesValue_102 rfl
    · replace hm := ip c5 hm
      refine X_aload_n 1 dX12_takesValue_65 rfl rfl rfl ?_
      refine X_getPe fl_X12_142 (g_K123 G) rfl (g_P123_56 G) dX12_takesValue_66 ?_
      refine X_iconst (v := (0 : Int32)) dX12_takesValue_69 (by decide) ?_
      refine X_ialdJ (j := 0) (g_K166 G) rfl (by decide) dX12_takesValue_70 ?_
      refine X_iconst (v := (-1 : Int32)) dX12_takesValue_71 (by decide) ?_
      refine X_icmp_ne (tgt := 79) dX12_takesValue_72 (by decide) (fun c6 => ?_) (fun c6 => ?_)
      · replace hm := iq c6 hm
        refine X_aload_n 1 dX12_takesValue_79 rfl rfl rfl ?_
        refine X_getPe fl_X12_13 (g_K123 G) rfl (g_P123_2 G) dX12_takesValue_80 ?_
        refine X_iload_n 4 dX12_takesValue_83 rfl rfl ?_
        obtain ⟨g7, hm⟩ := og hm
        refine X_ialdJ (g_K125 G) g7 rfl dX12_takesValue_84 ?_
        refine X_aload_n 1 dX12_takesValue_85 rfl rfl rfl ?_
        refine X_getPe fl_X12_142 (g_K123 G) rfl (g_P123_56 G) dX12_takesValue_86 ?_
        refine X_iconst (v := (0 : Int32)) dX12_takesValue_89 (by decide) ?_
        refine X_ialdJ (j := 0) (g_K166 G) rfl (by decide) dX12_takesValue_90 ?_
        refine X_iadd dX12_takesValue_91 ?_
        refine X_goto (tgt := 99) dX12_takesValue_92 (by decide) ?_
        refine X_putI fl_X12_524 (g_K123 G) rfl rfl dX12_takesValue_99 ?_
        replace hm := Option.some.inj hm
        subst hm
        exact X_vret dX12_takesValue_102 rfl
      · replace hm := ip c6 hm
        refine X_iconst (v := (-1 : Int32)) dX12_takesValue_75 (by decide) ?_
        refine X_goto (tgt := 99) dX12_takesValue_76 (by decide) ?_
        refine X_putI fl_X12_524 (g_K123 G) rfl rfl dX12_takesValue_99 ?_
        replace hm := Option.some.inj hm
        subst hm
        exact X_vret dX12_takesValue_102 rfl
def mX12_takesValue_41  (I : Nat → Nat → Int32) (a1 : Int32) (a2 : Int32) (a3 : Int32) : Option ((Nat → Nat → Int32)) := (mX12_takesValue_46 I a1 a2 a3 (1 : Int32))
set_option maxHeartbeats 400000 in
set_option maxRecDepth 100000 in
theorem kX12_takesValue_41 {E : xE} {B : Nat} {n : Nat} {K : Nat → Nat × Nat} {P : Nat → Nat → Nat} {I : Nat → Nat → Int32} {L : Nat → Nat → Int64}   {a1 : Int32} {a2 : Int32} {a3 : Int32} {q : (Nat → Nat → Int32)} (d : Nat) (hd : 0 ≤ d) (G : GW K P)    (hm : mX12_takesValue_41 I a1 a2 a3 = some q) : X E B d 0 0 yX12_takesValue cX12_takesValue 5 (none : Option Jvm.ClassFile.FieldType) (none, (n, K, P, q, L)) 41 [(0, .ref 123), (1, .int a1), (2, .int a2), (3, .int a3)] [] 0 0 (n, K, P, I, L) := by
  unfold mX12_takesValue_41 at hm
  refine X_iconst (v := (1 : Int32)) dX12_takesValue_41 (by decide) ?_
  refine X_goto (tgt := 46) dX12_takesValue_42 (by decide) ?_
  exact kX12_takesValue_46 _ hd G hm
def mX12_takesValue_45  (I : Nat → Nat → Int32) (a1 : Int32) (a2 : Int32) (a3 : Int32) : Option ((Nat → Nat → Int32)) := (mX12_takesValue_46 I a1 a2 a3 (0 : Int32))
set_option maxHeartbeats 400000 in
set_option maxRecDepth 100000 in
theorem kX12_takesValue_45 {E : xE} {B : Nat} {n : Nat} {K : Nat → Nat × Nat} {P : Nat → Nat → Nat} {I : Nat → Nat → Int32} {L : Nat → Nat → Int64}   {a1 : Int32} {a2 : Int32} {a3 : Int32} {q : (Nat → Nat → Int32)} (d : Nat) (hd : 0 ≤ d) (G : GW K P)    (hm : mX12_takesValue_45 I a1 a2 a3 = some q) : X E B d 0 0 yX12_takesValue cX12_takesValue 5 (none : Option Jvm.ClassFile.FieldType) (none, (n, K, P, q, L)) 45 [(0, .ref 123), (1, .int a1), (2, .int a2), (3, .int a3)] [] 0 0 (n, K, P, I, L) := by
  unfold mX12_takesValue_45 at hm
  refine X_iconst (v := (0 : Int32)) dX12_takesValue_45 (by decide) ?_
  exact kX12_takesValue_46 _ hd G hm
def mX12_takesValue  (I : Nat → Nat → Int32) (a1 : Int32) (a2 : Int32) (a3 : Int32) : Option ((Nat → Nat → Int32)) := (if inb a1 5 = true then (if (I 167 (ix a1)) = (1000 : Int32) then (mX12_takesValue_41 I a1 a2 a3) else (if (xrem a1 (2 : Int32)) = 0 then (if inb a1 5 = true then (if a2 ≤ (I 167 (ix a1)) then (mX12_takesValue_45 I a1 a2 a3) else (mX12_takesValue_41 I a1 a2 a3)) else none) else (if inb a1 5 = true then (if (I 167 (ix a1)) ≤ a2 then (mX12_takesValue_45 I a1 a2 a3) else (mX12_takesValue_41 I a1 a2 a3)) else none))) else none)
set_option maxHeartbeats 400000 in
set_option maxRecDepth 100000 in
theorem kX12_takesValue {E : xE} {B : Nat} {n : Nat} {K : Nat → Nat × Nat} {P : Nat → Nat → Nat} {I : Nat → Nat → Int32} {L : Nat → Nat → Int64}  {a1 : Int32} {a2 : Int32} {a3 : Int32} {q : (Nat → Nat → Int32)} (d : Nat) (hd : 0 ≤ d) (G : GW K P)   (hm : mX12_takesValue I a1 a2 a3 = some q) : MX E B d 0 0 yX12_takesValue cX12_takesValue 5 (none : Option Jvm.ClassFile.FieldType) [.ref 123, .int a1, .int a2, .int a3] (n, K, P, I, L) (none, (n, K, P, q, L)) := by
  refine MX_of (lv := [(0, .ref 123), (1, .int a1), (2, .int a2), (3, .int a3)]) (by decide +kernel) (Nat.le_of_ble_eq_true rfl) rfl ?_
  unfold mX12_takesValue at hm
  refine X_aload_n 0 dX12_takesValue_0 rfl rfl rfl ?_
  refine X_getPe fl_X12_145 (g_K123 G) rfl (g_P123_57 G) dX12_takesValue_1 ?_
  refine X_iload_n 1 dX12_takesValue_4 rfl rfl ?_
  obtain ⟨g1, hm⟩ := og hm
  refine X_ialdJ (g_K167 G) g1 rfl dX12_takesValue_5 ?_
  refine X_sipush (v := (1000 : Int32)) dX12_takesValue_6 (by decide) ?_
  refine X_icmp_eq (tgt := 41) dX12_takesValue_9 (by decide) (fun c2 => ?_) (fun c2 => ?_)
  · replace hm := ip c2 hm
    exact kX12_takesValue_41 _ hd G hm
  · replace hm := iq c2 hm
    refine X_iload_n 1 dX12_takesValue_12 rfl rfl ?_
    refine X_iconst (v := (2 : Int32)) dX12_takesValue_13 (by decide) ?_
    refine X_irem dX12_takesValue_14 (by decide) ?_
    refine X_if_ne (tgt := 31) dX12_takesValue_15 (by decide) (fun c8 => ?_) (fun c8 => ?_)
    · replace hm := iq c8 hm
      refine X_iload_n 2 dX12_takesValue_31 rfl rfl ?_
      refine X_aload_n 0 dX12_takesValue_32 rfl rfl rfl ?_
      refine X_getPe fl_X12_145 (g_K123 G) rfl (g_P123_57 G) dX12_takesValue_33 ?_
      refine X_iload_n 1 dX12_takesValue_36 rfl rfl ?_
      obtain ⟨g9, hm⟩ := og hm
      refine X_ialdJ (g_K167 G) g9 rfl dX12_takesValue_37 ?_
      refine X_icmp_ge (tgt := 45) dX12_takesValue_38 (by decide) (fun c10 => ?_) (fun c10 => ?_)
      · replace hm := ip c10 hm
        exact kX12_takesValue_45 _ hd G hm
      · replace hm := iq c10 hm
        exact kX12_takesValue_41 _ hd G hm
    · replace hm := ip c8 hm
      refine X_iload_n 2 dX12_takesValue_18 rfl rfl ?_
      refine X_aload_n 0 dX12_takesValue_19 rfl rfl rfl ?_
      refine X_getPe fl_X12_145 (g_K123 G) rfl (g_P123_57 G) dX12_takesValue_20 ?_
      refine X_iload_n 1 dX12_takesValue_23 rfl rfl ?_
      obtain ⟨g11, hm⟩ := og hm
      refine X_ialdJ (g_K167 G) g11 rfl dX12_takesValue_24 ?_
      refine X_icmp_le (tgt := 45) dX12_takesValue_25 (by decide) (fun c12 => ?_) (fun c12 => ?_)
      · replace hm := ip c12 hm
        exact kX12_takesValue_45 _ hd G hm
      · replace hm := iq c12 hm
        refine X_goto (tgt := 41) dX12_takesValue_28 (by decide) ?_
        exact kX12_takesValue_41 _ hd G hm
def mX12_playsGame_24   : Nat → (Nat → Nat → Int32) → Int32 → Int32 → Int32 → Int32 → Int32 → Option (Int32 × (Nat → Nat → Int32))
  | 0, _, _, _, _, _, _ => none
  | f + 1, I, a1, a2, a3, a4, a5 => (if a5 < 0 then (some ((I 167 0), I)) else (if a5 = a4 then (Option.bind (mX12_gameEnd I a1 a2 a3 a4) (fun q17 => (Option.bind (mX12_takesValue q17.2 (a5 + (-1)) q17.1 a3) (fun q19 => (mX12_playsGame_24 f q19 a1 a2 a3 a4 (a5 + (-1))))))) else (if inb a5 5 = true then (if inb a5 5 = true then (if inb a5 5 = true then (Option.bind (mX12_cellsIn (xu I 166 (ix a5) ((I 166 (ix a5)) + (1 : Int32))) a3) (fun q8 => (if q8 ≤ ((xu I 166 (ix a5) ((I 166 (ix a5)) + (1 : Int32))) 166 (ix a5)) then (if (a5 + (-1)) < 0 then (mX12_playsGame_24 f (xu I 166 (ix a5) ((I 166 (ix a5)) + (1 : Int32))) a1 a2 a3 a4 (a5 + (-1))) else (if inb ((a5 + (-1)) + (1 : Int32)) 5 = true then (Option.bind (mX12_takesValue (xu I 166 (ix a5) ((I 166 (ix a5)) + (1 : Int32))) (a5 + (-1)) ((xu I 166 (ix a5) ((I 166 (ix a5)) + (1 : Int32))) 167 (ix ((a5 + (-1)) + (1 : Int32)))) a3) (fun q13 => (mX12_playsGame_24 f q13 a1 a2 a3 a4 (a5 + (-1))))) else none)) else (if inb (a5 + 1) 5 = true then (if inb (a5 + 1) 5 = true then (mX12_playsGame_24 f (xu (xu (xu I 166 (ix a5) ((I 166 (ix a5)) + (1 : Int32))) 166 (ix (a5 + 1)) (-2 : Int32)) 167 (ix (a5 + 1)) (1000 : Int32)) a1 a2 a3 a4 (a5 + 1)) else none) else none)))) else none) else none) else none)))
set_option maxHeartbeats 400000 in
set_option maxRecDepth 100000 in
theorem kX12_playsGame_24 {E : xE} {B : Nat} {n : Nat} {K : Nat → Nat × Nat} {P : Nat → Nat → Nat} {L : Nat → Nat → Int64}   {q : Int32 × (Nat → Nat → Int32)} (d : Nat) (hd : 7 ≤ d) (G : GW K P)   : ∀ (f : Nat) (I : Nat → Nat → Int32) (a1 : Int32) (a2 : Int32) (a3 : Int32) (a4 : Int32) (a5 : Int32), mX12_playsGame_24 f I a1 a2 a3 a4 a5 = some q → X E B d 0 0 yX12_playsGame cX12_playsGame 6 (some .int) (some (.int q.1), (n, K, P, q.2, L)) 24 [(0, .ref 123), (1, .int a1), (2, .int a2), (3, .int a3), (4, .int a4), (5, .int a5)] [] 0 0 (n, K, P, I, L) := by
  obtain ⟨d, rfl⟩ : ∃ d0, d = d0 + 1 := ⟨d - 1, by omega⟩
  intro f
  induction f with
  | zero => intro _ _ _ _ _ _ hm; exact nomatch (show (none : Option (Int32 × (Nat → Nat → Int32))) = some q from hm)
  | succ f ih =>
    intro I a1 a2 a3 a4 a5 hm
    rw [mX12_playsGame_24] at hm
    refine X_iload 5 dX12_playsGame_24 rfl ?_
    refine X_if_lt (tgt := 136) dX12_playsGame_26 (by decide) (fun c3 => ?_) (fun c3 => ?_)
    · replace hm := ip c3 hm
      refine X_aload_n 0 dX12_playsGame_136 rfl rfl rfl ?_
      refine X_getPe fl_X12_145 (g_K123 G) rfl (g_P123_57 G) dX12_playsGame_137 ?_
      refine X_iconst (v := (0 : Int32)) dX12_playsGame_140 (by decide) ?_
      refine X_ialdJ (j := 0) (g_K167 G) rfl (by decide) dX12_playsGame_141 ?_
      replace hm := Option.some.inj hm
      subst hm
      exact X_iret dX12_playsGame_142 rfl
    · replace hm := iq c3 hm
      refine X_iload 5 dX12_playsGame_29 rfl ?_
      refine X_iload 4 dX12_playsGame_31 rfl ?_
      refine X_icmp_ne (tgt := 58) dX12_playsGame_33 (by decide) (fun c4 => ?_) (fun c4 => ?_)
      · replace hm := iq c4 hm
        refine X_aload_n 0 dX12_playsGame_58 rfl rfl rfl ?_
        refine X_getPe fl_X12_142 (g_K123 G) rfl (g_P123_56 G) dX12_playsGame_59 ?_
        refine X_iload 5 dX12_playsGame_62 rfl ?_
        refine X_dup2 dX12_playsGame_64 rfl rfl ?_
        obtain ⟨g5, hm⟩ := og hm
        refine X_ialdJ (g_K166 G) g5 rfl dX12_playsGame_65 ?_
        refine X_iconst (v := (1 : Int32)) dX12_playsGame_66 (by decide) ?_
        refine X_iadd dX12_playsGame_67 ?_
        obtain ⟨g6, hm⟩ := og hm
        refine X_iastJ (g_K166 G) g6 rfl dX12_playsGame_68 ?_
        refine X_aload_n 0 dX12_playsGame_69 rfl rfl rfl ?_
        refine X_getPe fl_X12_142 (g_K123 G) rfl (g_P123_56 G) dX12_playsGame_70 ?_
        refine X_iload 5 dX12_playsGame_73 rfl ?_
        obtain ⟨g7, hm⟩ := og hm
        refine X_ialdJ (g_K166 G) g7 rfl dX12_playsGame_75 ?_
        refine X_aload_n 0 dX12_playsGame_76 rfl rfl rfl ?_
        refine X_iload_n 3 dX12_playsGame_77 rfl rfl ?_
        obtain ⟨q8, e9, hm⟩ := ob hm
        refine X_cV1 (ci := 11) (kX12_cellsIn d (by omega) G e9) ml_X12_396 mi_X12_cellsIn rfl cf_11 (g_K123 G) rfl rfl (Nat.le_refl _) ⟨Nat.le_refl _, Nat.le_refl _⟩ (Nat.le_of_ble_eq_true rfl) dX12_playsGame_78 ?_
        refine X_icmp_ge (tgt := 109) dX12_playsGame_81 (by decide) (fun c10 => ?_) (fun c10 => ?_)
        · replace hm := ip c10 hm
          refine X_iinc (lv' := [(5, .int (a5 + (-1))), (0, .ref 123), (1, .int a1), (2, .int a2), (3, .int a3), (4, .int a4)]) 5 dX12_playsGame_109 rfl rfl (by decide) rfl ?_
          refine X_iload 0 dX12_playsGame_112 rfl ?_
          refine X_if_lt (tgt := 24) dX12_playsGame_114 (by decide) (fun c11 => ?_) (fun c11 => ?_)
          · replace hm := ip c11 hm
            exact X_lv [1, 2, 3, 4, 5, 0] rfl (ih _ _ _ _ _ _ hm)
          · replace hm := iq c11 hm
            refine X_aload_n 1 dX12_playsGame_117 rfl rfl rfl ?_
            refine X_iload 0 dX12_playsGame_118 rfl ?_
            refine X_aload_n 1 dX12_playsGame_120 rfl rfl rfl ?_
            refine X_getPe fl_X12_145 (g_K123 G) rfl (g_P123_57 G) dX12_playsGame_121 ?_
            refine X_iload 0 dX12_playsGame_124 rfl ?_
            refine X_iconst (v := (1 : Int32)) dX12_playsGame_126 (by decide) ?_
            refine X_iadd dX12_playsGame_127 ?_
            obtain ⟨g12, hm⟩ := og hm
            refine X_ialdJ (g_K167 G) g12 rfl dX12_playsGame_128 ?_
            refine X_iload_n 4 dX12_playsGame_129 rfl rfl ?_
            obtain ⟨q13, e14, hm⟩ := ob hm
            refine X_cV0 (ci := 11) (kX12_takesValue d (by omega) G e14) ml_X12_531 mi_X12_takesValue rfl cf_11 (g_K123 G) rfl rfl (Nat.le_refl _) ⟨Nat.le_refl _, Nat.le_refl _⟩ (Nat.le_of_ble_eq_true rfl) dX12_playsGame_130 ?_
            refine X_goto (tgt := 24) dX12_playsGame_133 (by decide) ?_
            exact X_lv [1, 2, 3, 4, 5, 0] rfl (ih _ _ _ _ _ _ hm)
        · replace hm := iq c10 hm
          refine X_iinc (lv' := [(5, .int (a5 + 1)), (0, .ref 123), (1, .int a1), (2, .int a2), (3, .int a3), (4, .int a4)]) 5 dX12_playsGame_84 rfl rfl (by decide) rfl ?_
          refine X_aload_n 1 dX12_playsGame_87 rfl rfl rfl ?_
          refine X_getPe fl_X12_142 (g_K123 G) rfl (g_P123_56 G) dX12_playsGame_88 ?_
          refine X_iload 0 dX12_playsGame_91 rfl ?_
          refine X_bipush (v := (-2 : Int32)) dX12_playsGame_93 (by decide) ?_
          obtain ⟨g15, hm⟩ := og hm
          refine X_iastJ (g_K166 G) g15 rfl dX12_playsGame_95 ?_
          refine X_aload_n 1 dX12_playsGame_96 rfl rfl rfl ?_
          refine X_getPe fl_X12_145 (g_K123 G) rfl (g_P123_57 G) dX12_playsGame_97 ?_
          refine X_iload 0 dX12_playsGame_100 rfl ?_
          refine X_sipush (v := (1000 : Int32)) dX12_playsGame_102 (by decide) ?_
          obtain ⟨g16, hm⟩ := og hm
          refine X_iastJ (g_K167 G) g16 rfl dX12_playsGame_105 ?_
          refine X_goto (tgt := 24) dX12_playsGame_106 (by decide) ?_
          exact X_lv [1, 2, 3, 4, 5, 0] rfl (ih _ _ _ _ _ _ hm)
      · replace hm := ip c4 hm
        refine X_iinc (lv' := [(5, .int (a5 + (-1))), (0, .ref 123), (1, .int a1), (2, .int a2), (3, .int a3), (4, .int a4)]) 5 dX12_playsGame_36 rfl rfl (by decide) rfl ?_
        refine X_aload_n 1 dX12_playsGame_39 rfl rfl rfl ?_
        refine X_iload 0 dX12_playsGame_40 rfl ?_
        refine X_aload_n 1 dX12_playsGame_42 rfl rfl rfl ?_
        refine X_iload_n 2 dX12_playsGame_43 rfl rfl ?_
        refine X_iload_n 3 dX12_playsGame_44 rfl rfl ?_
        refine X_iload_n 4 dX12_playsGame_45 rfl rfl ?_
        refine X_iload 5 dX12_playsGame_46 rfl ?_
        obtain ⟨q17, e18, hm⟩ := ob hm
        refine X_cV1 (ci := 11) (kX12_gameEnd d (by omega) G e18) ml_X12_527 mi_X12_gameEnd rfl cf_11 (g_K123 G) rfl rfl (Nat.le_refl _) ⟨Nat.le_refl _, Nat.le_refl _⟩ (Nat.le_of_ble_eq_true rfl) dX12_playsGame_48 ?_
        refine X_iload_n 4 dX12_playsGame_51 rfl rfl ?_
        obtain ⟨q19, e20, hm⟩ := ob hm
        refine X_cV0 (ci := 11) (kX12_takesValue d (by omega) G e20) ml_X12_531 mi_X12_takesValue rfl cf_11 (g_K123 G) rfl rfl (Nat.le_refl _) ⟨Nat.le_refl _, Nat.le_refl _⟩ (Nat.le_of_ble_eq_true rfl) dX12_playsGame_52 ?_
        refine X_goto (tgt := 24) dX12_playsGame_55 (by decide) ?_
        exact X_lv [1, 2, 3, 4, 5, 0] rfl (ih _ _ _ _ _ _ hm)
def mX12_playsGame  (I : Nat → Nat → Int32) (a1 : Int32) (a2 : Int32) (a3 : Int32) (a4 : Int32) : Option (Int32 × (Nat → Nat → Int32)) := (Option.bind (mX12_keepsAll I) (fun q1 => (mX12_playsGame_24 xf (xu (xu q1 166 0 (-2 : Int32)) 167 0 (1000 : Int32)) a1 a2 a3 a4 (0 : Int32))))
set_option maxHeartbeats 400000 in
set_option maxRecDepth 100000 in
theorem kX12_playsGame {E : xE} {B : Nat} {n : Nat} {K : Nat → Nat × Nat} {P : Nat → Nat → Nat} {I : Nat → Nat → Int32} {L : Nat → Nat → Int64}  {a1 : Int32} {a2 : Int32} {a3 : Int32} {a4 : Int32} {q : Int32 × (Nat → Nat → Int32)} (d : Nat) (hd : 7 ≤ d) (G : GW K P)   (hm : mX12_playsGame I a1 a2 a3 a4 = some q) : MX E B d 0 0 yX12_playsGame cX12_playsGame 6 (some .int) [.ref 123, .int a1, .int a2, .int a3, .int a4] (n, K, P, I, L) (some (.int q.1), (n, K, P, q.2, L)) := by
  refine MX_of (lv := [(0, .ref 123), (1, .int a1), (2, .int a2), (3, .int a3), (4, .int a4)]) (by decide +kernel) (Nat.le_of_ble_eq_true rfl) rfl ?_
  obtain ⟨d, rfl⟩ : ∃ d0, d = d0 + 1 := ⟨d - 1, by omega⟩
  unfold mX12_playsGame at hm
  refine X_aload_n 0 dX12_playsGame_0 rfl rfl rfl ?_
  obtain ⟨q1, e2, hm⟩ := ob hm
  refine X_cV0 (ci := 11) (kX12_keepsAll d (by omega) G e2) ml_X12_491 mi_X12_keepsAll rfl cf_11 (g_K123 G) rfl rfl (Nat.le_refl _) ⟨Nat.le_refl _, Nat.le_refl _⟩ (Nat.le_of_ble_eq_true rfl) dX12_playsGame_1 ?_
  refine X_iconst (v := (0 : Int32)) dX12_playsGame_4 (by decide) ?_
  refine X_istore (lv' := [(5, .int (0 : Int32)), (0, .ref 123), (1, .int a1), (2, .int a2), (3, .int a3), (4, .int a4)]) dX12_playsGame_5 (by decide) rfl ?_
  refine X_aload_n 1 dX12_playsGame_7 rfl rfl rfl ?_
  refine X_getPe fl_X12_142 (g_K123 G) rfl (g_P123_56 G) dX12_playsGame_8 ?_
  refine X_iconst (v := (0 : Int32)) dX12_playsGame_11 (by decide) ?_
  refine X_bipush (v := (-2 : Int32)) dX12_playsGame_12 (by decide) ?_
  refine X_iastJ (j := 0) (g_K166 G) rfl (by decide) dX12_playsGame_14 ?_
  refine X_aload_n 1 dX12_playsGame_15 rfl rfl rfl ?_
  refine X_getPe fl_X12_145 (g_K123 G) rfl (g_P123_57 G) dX12_playsGame_16 ?_
  refine X_iconst (v := (0 : Int32)) dX12_playsGame_19 (by decide) ?_
  refine X_sipush (v := (1000 : Int32)) dX12_playsGame_20 (by decide) ?_
  refine X_iastJ (j := 0) (g_K167 G) rfl (by decide) dX12_playsGame_23 ?_
  refine X_lv [1, 2, 3, 4, 5, 0] rfl (kX12_playsGame_24 _ hd G xf _ _ _ _ _ _  hm)
def mX12_game  (I : Nat → Nat → Int32) (a1 : Int32) (a2 : Int32) (a3 : Int32) (a4 : Int32) (a5 : Int32) : Option (Int32 × (Nat → Nat → Int32)) := (Option.bind (mX12_isPainter I a1) (fun q1 => (if q1 = 0 then (some ((-100 : Int32), I)) else (Option.bind (mX12_isPainter I a2) (fun q4 => (if q4 = 0 then (some ((-100 : Int32), I)) else (if a1 = a2 then (some ((-100 : Int32), I)) else (Option.bind (mX12_isThing I a3) (fun q8 => (if q8 = 0 then (some ((-100 : Int32), I)) else (Option.bind (mX12_isBare I a3) (fun q11 => (if q11 = 0 then (Option.bind (mX12_in a4.toInt64 (1 : Int64) (4 : Int64)) (fun q14 => (if q14 = 0 then (some ((-100 : Int32), I)) else (Option.bind (mX12_in a5.toInt64 (0 : Int64) (1 : Int64)) (fun q17 => (if q17 = 0 then (some ((-100 : Int32), I)) else (Option.bind (mX12_playsGame I a1 a2 a3 a4) (fun q20 => (if a5 = 0 then (some (q20.1, q20.2)) else (some ((q20.2 123 58), q20.2))))))))))) else (some ((-100 : Int32), I)))))))))))))))
set_option maxHeartbeats 400000 in
set_option maxRecDepth 100000 in
theorem kX12_game {E : xE} {B : Nat} {n : Nat} {K : Nat → Nat × Nat} {P : Nat → Nat → Nat} {I : Nat → Nat → Int32} {L : Nat → Nat → Int64}  {a1 : Int32} {a2 : Int32} {a3 : Int32} {a4 : Int32} {a5 : Int32} {q : Int32 × (Nat → Nat → Int32)} (d : Nat) (hd : 8 ≤ d) (G : GW K P)   (hm : mX12_game I a1 a2 a3 a4 a5 = some q) : MX E B d 0 0 yX12_game cX12_game 7 (some .int) [.ref 123, .int a1, .int a2, .int a3, .int a4, .int a5] (n, K, P, I, L) (some (.int q.1), (n, K, P, q.2, L)) := by
  refine MX_of (lv := [(0, .ref 123), (1, .int a1), (2, .int a2), (3, .int a3), (4, .int a4), (5, .int a5)]) (by decide +kernel) (Nat.le_of_ble_eq_true rfl) rfl ?_
  obtain ⟨d, rfl⟩ : ∃ d0, d = d0 + 1 := ⟨d - 1, by omega⟩
  unfold mX12_game at hm
  refine X_aload_n 0 dX12_game_0 rfl rfl rfl ?_
  refine X_iload_n 1 dX12_game_1 rfl rfl ?_
  obtain ⟨q1, e2, hm⟩ := ob hm
  refine X_cV1 (ci := 11) (kX12_isPainter d (by omega) G e2) ml_X12_423 mi_X12_isPainter rfl cf_11 (g_K123 G) rfl rfl (Nat.le_refl _) ⟨Nat.le_refl _, Nat.le_refl _⟩ (Nat.le_of_ble_eq_true rfl) dX12_game_2 ?_
  refine X_if_eq (tgt := 61) dX12_game_5 (by decide) (fun c3 => ?_) (fun c3 => ?_)
  · replace hm := ip c3 hm
    refine X_bipush (v := (-100 : Int32)) dX12_game_61 (by decide) ?_
    replace hm := Option.some.inj hm
    subst hm
    exact X_iret dX12_game_63 rfl
  · replace hm := iq c3 hm
    refine X_aload_n 0 dX12_game_8 rfl rfl rfl ?_
    refine X_iload_n 2 dX12_game_9 rfl rfl ?_
    obtain ⟨q4, e5, hm⟩ := ob hm
    refine X_cV1 (ci := 11) (kX12_isPainter d (by omega) G e5) ml_X12_423 mi_X12_isPainter rfl cf_11 (g_K123 G) rfl rfl (Nat.le_refl _) ⟨Nat.le_refl _, Nat.le_refl _⟩ (Nat.le_of_ble_eq_true rfl) dX12_game_10 ?_
    refine X_if_eq (tgt := 61) dX12_game_13 (by decide) (fun c6 => ?_) (fun c6 => ?_)
    · replace hm := ip c6 hm
      refine X_bipush (v := (-100 : Int32)) dX12_game_61 (by decide) ?_
      replace hm := Option.some.inj hm
      subst hm
      exact X_iret dX12_game_63 rfl
    · replace hm := iq c6 hm
      refine X_iload_n 1 dX12_game_16 rfl rfl ?_
      refine X_iload_n 2 dX12_game_17 rfl rfl ?_
      refine X_icmp_eq (tgt := 61) dX12_game_18 (by decide) (fun c7 => ?_) (fun c7 => ?_)
      · replace hm := ip c7 hm
        refine X_bipush (v := (-100 : Int32)) dX12_game_61 (by decide) ?_
        replace hm := Option.some.inj hm
        subst hm
        exact X_iret dX12_game_63 rfl
      · replace hm := iq c7 hm
        refine X_aload_n 0 dX12_game_21 rfl rfl rfl ?_
        refine X_iload_n 3 dX12_game_22 rfl rfl ?_
        obtain ⟨q8, e9, hm⟩ := ob hm
        refine X_cV1 (ci := 11) (kX12_isThing d (by omega) G e9) ml_X12_417 mi_X12_isThing rfl cf_11 (g_K123 G) rfl rfl (Nat.le_refl _) ⟨Nat.le_refl _, Nat.le_refl _⟩ (Nat.le_of_ble_eq_true rfl) dX12_game_23 ?_
        refine X_if_eq (tgt := 61) dX12_game_26 (by decide) (fun c10 => ?_) (fun c10 => ?_)
        · replace hm := ip c10 hm
          refine X_bipush (v := (-100 : Int32)) dX12_game_61 (by decide) ?_
          replace hm := Option.some.inj hm
          subst hm
          exact X_iret dX12_game_63 rfl
        · replace hm := iq c10 hm
          refine X_aload_n 0 dX12_game_29 rfl rfl rfl ?_
          refine X_iload_n 3 dX12_game_30 rfl rfl ?_
          obtain ⟨q11, e12, hm⟩ := ob hm
          refine X_cV1 (ci := 11) (kX12_isBare d (by omega) G e12) ml_X12_336 mi_X12_isBare rfl cf_11 (g_K123 G) rfl rfl (Nat.le_refl _) ⟨Nat.le_refl _, Nat.le_refl _⟩ (Nat.le_of_ble_eq_true rfl) dX12_game_31 ?_
          refine X_if_ne (tgt := 61) dX12_game_34 (by decide) (fun c13 => ?_) (fun c13 => ?_)
          · replace hm := iq c13 hm
            refine X_bipush (v := (-100 : Int32)) dX12_game_61 (by decide) ?_
            replace hm := Option.some.inj hm
            subst hm
            exact X_iret dX12_game_63 rfl
          · replace hm := ip c13 hm
            refine X_iload 4 dX12_game_37 rfl ?_
            refine X_i2l dX12_game_39 ?_
            refine X_lconst (v := (1 : Int64)) dX12_game_40 (by decide) ?_
            refine X_ldc2 lc_X12_535 dX12_game_41 ?_
            obtain ⟨q14, e15, hm⟩ := ob hm
            refine X_cS1 (kX12_in d (by omega) G e15) ml_X12_164 ms_X12_in rfl rfl (Nat.le_refl _) ⟨Nat.le_refl _, Nat.le_refl _⟩ (Nat.le_of_ble_eq_true rfl) dX12_game_44 ?_
            refine X_if_eq (tgt := 61) dX12_game_47 (by decide) (fun c16 => ?_) (fun c16 => ?_)
            · replace hm := ip c16 hm
              refine X_bipush (v := (-100 : Int32)) dX12_game_61 (by decide) ?_
              replace hm := Option.some.inj hm
              subst hm
              exact X_iret dX12_game_63 rfl
            · replace hm := iq c16 hm
              refine X_iload 5 dX12_game_50 rfl ?_
              refine X_i2l dX12_game_52 ?_
              refine X_lconst (v := (0 : Int64)) dX12_game_53 (by decide) ?_
              refine X_lconst (v := (1 : Int64)) dX12_game_54 (by decide) ?_
              obtain ⟨q17, e18, hm⟩ := ob hm
              refine X_cS1 (kX12_in d (by omega) G e18) ml_X12_164 ms_X12_in rfl rfl (Nat.le_refl _) ⟨Nat.le_refl _, Nat.le_refl _⟩ (Nat.le_of_ble_eq_true rfl) dX12_game_55 ?_
              refine X_if_ne (tgt := 64) dX12_game_58 (by decide) (fun c19 => ?_) (fun c19 => ?_)
              · replace hm := iq c19 hm
                refine X_aload_n 0 dX12_game_64 rfl rfl rfl ?_
                refine X_iload_n 1 dX12_game_65 rfl rfl ?_
                refine X_iload_n 2 dX12_game_66 rfl rfl ?_
                refine X_iload_n 3 dX12_game_67 rfl rfl ?_
                refine X_iload 4 dX12_game_68 rfl ?_
                obtain ⟨q20, e21, hm⟩ := ob hm
                refine X_cV1 (ci := 11) (kX12_playsGame d (by omega) G e21) ml_X12_537 mi_X12_playsGame rfl cf_11 (g_K123 G) rfl rfl (Nat.le_refl _) ⟨Nat.le_refl _, Nat.le_refl _⟩ (Nat.le_of_ble_eq_true rfl) dX12_game_70 ?_
                refine X_istore (lv' := [(6, .int q20.1), (0, .ref 123), (1, .int a1), (2, .int a2), (3, .int a3), (4, .int a4), (5, .int a5)]) dX12_game_73 (by decide) rfl ?_
                refine X_iload 6 dX12_game_75 rfl ?_
                refine X_if_ne (tgt := 85) dX12_game_77 (by decide) (fun c22 => ?_) (fun c22 => ?_)
                · replace hm := iq c22 hm
                  refine X_aload_n 1 dX12_game_85 rfl rfl rfl ?_
                  refine X_getI fl_X12_524 (g_K123 G) rfl dX12_game_86 ?_
                  replace hm := Option.some.inj hm
                  subst hm
                  exact X_iret dX12_game_89 rfl
                · replace hm := ip c22 hm
                  refine X_iload 0 dX12_game_80 rfl ?_
                  refine X_goto (tgt := 89) dX12_game_82 (by decide) ?_
                  replace hm := Option.some.inj hm
                  subst hm
                  exact X_iret dX12_game_89 rfl
              · replace hm := ip c19 hm
                refine X_bipush (v := (-100 : Int32)) dX12_game_61 (by decide) ?_
                replace hm := Option.some.inj hm
                subst hm
                exact X_iret dX12_game_63 rfl
def mX12_share_60  (e83 : (Nat → Nat → Int32) → Int32 → Int32 → Int32 → Int32 → Option (Int32 × (Nat → Nat → Int32))) : Nat → (Nat → Nat → Int32) → Int32 → Int32 → Int32 → Int32 → Int32 → Option (Int32 × (Nat → Nat → Int32))
  | 0, _, _, _, _, _, _ => none
  | f + 1, I, a2, a3, a4, a5, a6 => (if a5 = 0 then (e83 I a2 a3 a4 a6) else (if ¬ a5 = 0 then (mX12_share_60 e83 f I a2 a3 a4 (xrem a6 a5) a5) else none))
set_option maxHeartbeats 400000 in
set_option maxRecDepth 100000 in
theorem kX12_share_60 {E : xE} {B : Nat} {n : Nat} {K : Nat → Nat × Nat} {P : Nat → Nat → Nat} {L : Nat → Nat → Int64}  {e83 : (Nat → Nat → Int32) → Int32 → Int32 → Int32 → Int32 → Option (Int32 × (Nat → Nat → Int32))} {q : Int32 × (Nat → Nat → Int32)} (d : Nat) (hd : 3 ≤ d) (G : GW K P)  (he83 : ∀ (I : Nat → Nat → Int32) (a2 : Int32) (a3 : Int32) (a4 : Int32) (a6 : Int32), e83 I a2 a3 a4 a6 = some q → X E B d 0 0 yX12_share cX12_share 8 (some .int) (some (.int q.1), (n, K, P, q.2, L)) 83 [(0, .ref 123), (2, .int a2), (3, .int a3), (4, .int a4), (6, .int a6)] [] 0 0 (n, K, P, I, L)) : ∀ (f : Nat) (I : Nat → Nat → Int32) (a2 : Int32) (a3 : Int32) (a4 : Int32) (a5 : Int32) (a6 : Int32), mX12_share_60 e83 f I a2 a3 a4 a5 a6 = some q → X E B d 0 0 yX12_share cX12_share 8 (some .int) (some (.int q.1), (n, K, P, q.2, L)) 60 [(0, .ref 123), (2, .int a2), (3, .int a3), (4, .int a4), (5, .int a5), (6, .int a6)] [] 0 0 (n, K, P, I, L) := by
  obtain ⟨d, rfl⟩ : ∃ d0, d = d0 + 1 := ⟨d - 1, by omega⟩
  intro f
  induction f with
  | zero => intro _ _ _ _ _ _ hm; exact nomatch (show (none : Option (Int32 × (Nat → Nat → Int32))) = some q from hm)
  | succ f ih =>
    intro I a2 a3 a4 a5 a6 hm
    rw [mX12_share_60] at hm
    refine X_iload 4 dX12_share_60 rfl ?_
    refine X_if_eq (tgt := 83) dX12_share_62 (by decide) (fun c15 => ?_) (fun c15 => ?_)
    · replace hm := ip c15 hm
      exact X_lv [0, 1, 2, 3, 5] rfl (he83 _ _ _ _ _ hm)
    · replace hm := iq c15 hm
      refine X_iload 5 dX12_share_65 rfl ?_
      refine X_iload 4 dX12_share_67 rfl ?_
      obtain ⟨g16, hm⟩ := og hm
      refine X_irem dX12_share_69 g16 ?_
      refine X_istore (lv' := [(7, .int (xrem a6 a5)), (0, .ref 123), (2, .int a2), (3, .int a3), (4, .int a4), (5, .int a5), (6, .int a6)]) dX12_share_70 (by decide) rfl ?_
      refine X_iload 5 dX12_share_72 rfl ?_
      refine X_istore (lv' := [(6, .int a5), (7, .int (xrem a6 a5)), (0, .ref 123), (2, .int a2), (3, .int a3), (4, .int a4), (5, .int a5)]) dX12_share_74 (by decide) rfl ?_
      refine X_iload 1 dX12_share_76 rfl ?_
      refine X_istore (lv' := [(5, .int (xrem a6 a5)), (6, .int a5), (7, .int (xrem a6 a5)), (0, .ref 123), (2, .int a2), (3, .int a3), (4, .int a4)]) dX12_share_78 (by decide) rfl ?_
      refine X_goto (tgt := 60) dX12_share_80 (by decide) ?_
      exact X_lv [3, 4, 5, 6, 0, 1] rfl (ih _ _ _ _ _ _ hm)
def mX12_share  (I : Nat → Nat → Int32) (a1 : Int32) (a2 : Int32) (a3 : Int32) : Option (Int32 × (Nat → Nat → Int32)) := (Option.bind (mX12_isPainter I a1) (fun q1 => (if q1 = 0 then (some ((-1 : Int32), I)) else (Option.bind (mX12_isThing I a2) (fun q4 => (if q4 = 0 then (some ((-1 : Int32), I)) else (Option.bind (mX12_in a3.toInt64 (0 : Int64) (1 : Int64)) (fun q7 => (if q7 = 0 then (some ((-1 : Int32), I)) else (Option.bind (mX12_countsCells I a2 (I 124 9) (0 : Int32)) (fun q10 => (if inb a1 4 = true then (Option.bind (mX12_cellsIn q10 a2) (fun q13 => (mX12_share_60 (fun (I_17 : (Nat → Nat → Int32)) (a2_17 : Int32) (a3_17 : Int32) (a4_17 : Int32) (a6_17 : Int32) => (if a3_17 = 0 then (if ¬ a6_17 = 0 then (some ((a4_17 / a6_17), I_17)) else none) else (Option.bind (mX12_cellsIn I_17 a2_17) (fun q19 => (if ¬ a6_17 = 0 then (some ((q19 / a6_17), I_17)) else none))))) xf q10 a2 a3 (q10 160 (ix a1)) (q10 160 (ix a1)) q13))) else none))))))))))))
set_option maxHeartbeats 400000 in
set_option maxRecDepth 100000 in
theorem kX12_share {E : xE} {B : Nat} {n : Nat} {K : Nat → Nat × Nat} {P : Nat → Nat → Nat} {I : Nat → Nat → Int32} {L : Nat → Nat → Int64}  {a1 : Int32} {a2 : Int32} {a3 : Int32} {q : Int32 × (Nat → Nat → Int32)} (d : Nat) (hd : 3 ≤ d) (G : GW K P)   (hm : mX12_share I a1 a2 a3 = some q) : MX E B d 0 0 yX12_share cX12_share 8 (some .int) [.ref 123, .int a1, .int a2, .int a3] (n, K, P, I, L) (some (.int q.1), (n, K, P, q.2, L)) := by
  refine MX_of (lv := [(0, .ref 123), (1, .int a1), (2, .int a2), (3, .int a3)]) (by decide +kernel) (Nat.le_of_ble_eq_true rfl) rfl ?_
  obtain ⟨d, rfl⟩ : ∃ d0, d = d0 + 1 := ⟨d - 1, by omega⟩
  unfold mX12_share at hm
  refine X_aload_n 0 dX12_share_0 rfl rfl rfl ?_
  refine X_iload_n 1 dX12_share_1 rfl rfl ?_
  obtain ⟨q1, e2, hm⟩ := ob hm
  refine X_cV1 (ci := 11) (kX12_isPainter d (by omega) G e2) ml_X12_423 mi_X12_isPainter rfl cf_11 (g_K123 G) rfl rfl (Nat.le_refl _) ⟨Nat.le_refl _, Nat.le_refl _⟩ (Nat.le_of_ble_eq_true rfl) dX12_share_2 ?_
  refine X_if_eq (tgt := 26) dX12_share_5 (by decide) (fun c3 => ?_) (fun c3 => ?_)
  · replace hm := ip c3 hm
    refine X_iconst (v := (-1 : Int32)) dX12_share_26 (by decide) ?_
    replace hm := Option.some.inj hm
    subst hm
    exact X_iret dX12_share_27 rfl
  · replace hm := iq c3 hm
    refine X_aload_n 0 dX12_share_8 rfl rfl rfl ?_
    refine X_iload_n 2 dX12_share_9 rfl rfl ?_
    obtain ⟨q4, e5, hm⟩ := ob hm
    refine X_cV1 (ci := 11) (kX12_isThing d (by omega) G e5) ml_X12_417 mi_X12_isThing rfl cf_11 (g_K123 G) rfl rfl (Nat.le_refl _) ⟨Nat.le_refl _, Nat.le_refl _⟩ (Nat.le_of_ble_eq_true rfl) dX12_share_10 ?_
    refine X_if_eq (tgt := 26) dX12_share_13 (by decide) (fun c6 => ?_) (fun c6 => ?_)
    · replace hm := ip c6 hm
      refine X_iconst (v := (-1 : Int32)) dX12_share_26 (by decide) ?_
      replace hm := Option.some.inj hm
      subst hm
      exact X_iret dX12_share_27 rfl
    · replace hm := iq c6 hm
      refine X_iload_n 3 dX12_share_16 rfl rfl ?_
      refine X_i2l dX12_share_17 ?_
      refine X_lconst (v := (0 : Int64)) dX12_share_18 (by decide) ?_
      refine X_lconst (v := (1 : Int64)) dX12_share_19 (by decide) ?_
      obtain ⟨q7, e8, hm⟩ := ob hm
      refine X_cS1 (kX12_in d (by omega) G e8) ml_X12_164 ms_X12_in rfl rfl (Nat.le_refl _) ⟨Nat.le_refl _, Nat.le_refl _⟩ (Nat.le_of_ble_eq_true rfl) dX12_share_20 ?_
      refine X_if_ne (tgt := 28) dX12_share_23 (by decide) (fun c9 => ?_) (fun c9 => ?_)
      · replace hm := iq c9 hm
        refine X_aload_n 0 dX12_share_28 rfl rfl rfl ?_
        refine X_iload_n 2 dX12_share_29 rfl rfl ?_
        refine X_aload_n 0 dX12_share_30 rfl rfl rfl ?_
        refine X_getPe fl_X12_9 (g_K123 G) rfl (g_P123_1 G) dX12_share_31 ?_
        refine X_bipush (v := (9 : Int32)) dX12_share_34 (by decide) ?_
        refine X_ialdJ (j := 9) (g_K124 G) rfl (by decide) dX12_share_36 ?_
        refine X_iconst (v := (0 : Int32)) dX12_share_37 (by decide) ?_
        obtain ⟨q10, e11, hm⟩ := ob hm
        refine X_cV0 (ci := 11) (kX12_countsCells d (by omega) G e11) ml_X12_392 mi_X12_countsCells rfl cf_11 (g_K123 G) rfl rfl (Nat.le_refl _) ⟨Nat.le_refl _, Nat.le_refl _⟩ (Nat.le_of_ble_eq_true rfl) dX12_share_38 ?_
        refine X_aload_n 0 dX12_share_41 rfl rfl rfl ?_
        refine X_getPe fl_X12_124 (g_K123 G) rfl (g_P123_47 G) dX12_share_42 ?_
        refine X_iload_n 1 dX12_share_45 rfl rfl ?_
        obtain ⟨g12, hm⟩ := og hm
        refine X_ialdJ (g_K160 G) g12 rfl dX12_share_46 ?_
        refine X_istore (lv' := [(4, .int (q10 160 (ix a1))), (0, .ref 123), (1, .int a1), (2, .int a2), (3, .int a3)]) dX12_share_47 (by decide) rfl ?_
        refine X_iload 0 dX12_share_49 rfl ?_
        refine X_istore (lv' := [(5, .int (q10 160 (ix a1))), (4, .int (q10 160 (ix a1))), (0, .ref 123), (1, .int a1), (2, .int a2), (3, .int a3)]) dX12_share_51 (by decide) rfl ?_
        refine X_aload_n 2 dX12_share_53 rfl rfl rfl ?_
        refine X_iload_n 4 dX12_share_54 rfl rfl ?_
        obtain ⟨q13, e14, hm⟩ := ob hm
        refine X_cV1 (ci := 11) (kX12_cellsIn d (by omega) G e14) ml_X12_396 mi_X12_cellsIn rfl cf_11 (g_K123 G) rfl rfl (Nat.le_refl _) ⟨Nat.le_refl _, Nat.le_refl _⟩ (Nat.le_of_ble_eq_true rfl) dX12_share_55 ?_
        refine X_istore (lv' := [(6, .int q13), (5, .int (q10 160 (ix a1))), (4, .int (q10 160 (ix a1))), (0, .ref 123), (1, .int a1), (2, .int a2), (3, .int a3)]) dX12_share_58 (by decide) rfl ?_
        refine X_lv [3, 5, 6, 2, 1, 0] rfl (kX12_share_60 _ hd G (fun I_17 a2_17 a3_17 a4_17 a6_17 hm => ?_) xf _ _ _ _ _ _  hm)
        refine X_iload_n 2 dX12_share_83 rfl rfl ?_
        refine X_if_ne (tgt := 95) dX12_share_84 (by decide) (fun c18 => ?_) (fun c18 => ?_)
        · replace hm := iq c18 hm
          refine X_aload_n 0 dX12_share_95 rfl rfl rfl ?_
          refine X_iload_n 1 dX12_share_96 rfl rfl ?_
          obtain ⟨q19, e20, hm⟩ := ob hm
          refine X_cV1 (ci := 11) (kX12_cellsIn d (by omega) G e20) ml_X12_396 mi_X12_cellsIn rfl cf_11 (g_K123 G) rfl rfl (Nat.le_refl _) ⟨Nat.le_refl _, Nat.le_refl _⟩ (Nat.le_of_ble_eq_true rfl) dX12_share_97 ?_
          refine X_iload 4 dX12_share_100 rfl ?_
          obtain ⟨g21, hm⟩ := og hm
          refine X_idiv dX12_share_102 g21 ?_
          replace hm := Option.some.inj hm
          subst hm
          exact X_iret dX12_share_103 rfl
        · replace hm := ip c18 hm
          refine X_iload 3 dX12_share_87 rfl ?_
          refine X_iload 4 dX12_share_89 rfl ?_
          obtain ⟨g22, hm⟩ := og hm
          refine X_idiv dX12_share_91 g22 ?_
          refine X_goto (tgt := 103) dX12_share_92 (by decide) ?_
          replace hm := Option.some.inj hm
          subst hm
          exact X_iret dX12_share_103 rfl
      · replace hm := ip c9 hm
        refine X_iconst (v := (-1 : Int32)) dX12_share_26 (by decide) ?_
        replace hm := Option.some.inj hm
        subst hm
        exact X_iret dX12_share_27 rfl

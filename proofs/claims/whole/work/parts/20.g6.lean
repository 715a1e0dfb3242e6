def mX12_takes  (I : Nat → Nat → Int32) (a1 : Nat) : Option (Int32 × (Nat → Nat → Int32)) := (Option.bind (mX12_blanks I) (fun q1 => (Option.bind (mX12_stood q1 a1) (fun q3 => (if q3 = 0 then (if q3 = 0 ∨ q3 = 1 then (some (q3, (xu q1 123 28 ((q1 123 28) + (0 : Int32))))) else none) else (Option.bind (mJ0_length_8abf5 a1) (fun q7 => (if q3 = 0 ∨ q3 = 1 then (some (q3, (xu q1 123 28 ((q1 123 28) + q7)))) else none))))))))
set_option maxHeartbeats 400000 in
set_option maxRecDepth 100000 in
theorem kX12_takes {E : xE} {B : Nat} {n : Nat} {K : Nat → Nat × Nat} {P : Nat → Nat → Nat} {I : Nat → Nat → Int32} {L : Nat → Nat → Int64}  {a1 : Nat} {q : Int32 × (Nat → Nat → Int32)} (d : Nat) (hd : 6 ≤ d) (G : GW K P)  (h1 : a1 < 24) (hm : mX12_takes I a1 = some q) : MX E B d 0 0 yX12_takes cX12_takes 3 (some .boolean) [.ref 123, .retAddr a1] (n, K, P, I, L) (some (.int q.1), (n, K, P, q.2, L)) := by
  refine MX_of (lv := [(0, .ref 123), (1, .retAddr a1)]) (by decide +kernel) (Nat.le_of_ble_eq_true rfl) rfl ?_
  obtain ⟨d, rfl⟩ : ∃ d0, d = d0 + 1 := ⟨d - 1, by omega⟩
  unfold mX12_takes at hm
  refine X_aload_n 0 dX12_takes_0 rfl rfl rfl ?_
  obtain ⟨q1, e2, hm⟩ := ob hm
  refine X_cV0 (ci := 11) (kX12_blanks d (by omega) G e2) ml_X12_222 mi_X12_blanks rfl cf_11 (g_K123 G) rfl rfl (Nat.le_refl _) ⟨Nat.le_refl _, Nat.le_refl _⟩ (Nat.le_of_ble_eq_true rfl) dX12_takes_1 ?_
  refine X_aload_n 0 dX12_takes_4 rfl rfl rfl ?_
  refine X_aload_n 1 dX12_takes_5 rfl rfl rfl ?_
  obtain ⟨q3, e4, hm⟩ := ob hm
  refine X_cV1 (ci := 11) (kX12_stood d (by omega) G h1 e4) ml_X12_225 mi_X12_stood rfl cf_11 (g_K123 G) rfl rfl (Nat.le_refl _) ⟨Nat.le_refl _, Nat.le_refl _⟩ (Nat.le_of_ble_eq_true rfl) dX12_takes_6 ?_
  refine X_istore_n (lv' := [(2, .int q3), (0, .ref 123), (1, .retAddr a1)]) dX12_takes_9 rfl (by decide) rfl ?_
  refine X_aload_n 1 dX12_takes_10 rfl rfl rfl ?_
  refine X_dup dX12_takes_11 rfl ?_
  refine X_getI fl_X12_202 (g_K123 G) rfl dX12_takes_12 ?_
  refine X_iload_n 0 dX12_takes_15 rfl rfl ?_
  refine X_if_eq (tgt := 26) dX12_takes_16 (by decide) (fun c5 => ?_) (fun c5 => ?_)
  · replace hm := ip c5 hm
    refine X_iconst (v := (0 : Int32)) dX12_takes_26 (by decide) ?_
    refine X_iadd dX12_takes_27 ?_
    refine X_putI fl_X12_202 (g_K123 G) rfl rfl dX12_takes_28 ?_
    refine X_iload_n 0 dX12_takes_31 rfl rfl ?_
    obtain ⟨g6, hm⟩ := og hm
    replace hm := Option.some.inj hm
    subst hm
    exact X_zret dX12_takes_32 rfl (x_nz g6)
  · replace hm := iq c5 hm
    refine X_aload_n 2 dX12_takes_19 rfl rfl rfl ?_
    obtain ⟨q7, e8, hm⟩ := ob hm
    refine X_cT1 (kJ0_length_8abf5 d (by omega) G h1 e8) ml_X12_213 mi_J0_length_8abf5 rfl h1 rfl rfl (Nat.le_refl _) ⟨Nat.le_refl _, Nat.le_refl _⟩ (Nat.le_of_ble_eq_true rfl) dX12_takes_20 ?_
    refine X_goto (tgt := 27) dX12_takes_23 (by decide) ?_
    refine X_iadd dX12_takes_27 ?_
    refine X_putI fl_X12_202 (g_K123 G) rfl rfl dX12_takes_28 ?_
    refine X_iload_n 0 dX12_takes_31 rfl rfl ?_
    obtain ⟨g9, hm⟩ := og hm
    replace hm := Option.some.inj hm
    subst hm
    exact X_zret dX12_takes_32 rfl (x_nz g9)
def mX12_entry  (I : Nat → Nat → Int32) (a1 : Int32) (a2 : Int32) : Option ((Nat → Nat → Int32)) := (if (I 123 29) = 0 then (if inb (((300 : Int32) * (I 123 30)) + (I 123 32)) 1800 = true then (if inb (((300 : Int32) * ((xu I 151 (ix (((300 : Int32) * (I 123 30)) + (I 123 32))) a1) 123 30)) + ((xu I 151 (ix (((300 : Int32) * (I 123 30)) + (I 123 32))) a1) 123 32)) 1800 = true then (some (xu (xu (xu I 151 (ix (((300 : Int32) * (I 123 30)) + (I 123 32))) a1) 152 (ix (((300 : Int32) * ((xu I 151 (ix (((300 : Int32) * (I 123 30)) + (I 123 32))) a1) 123 30)) + ((xu I 151 (ix (((300 : Int32) * (I 123 30)) + (I 123 32))) a1) 123 32))) a2) 123 32 (((xu (xu I 151 (ix (((300 : Int32) * (I 123 30)) + (I 123 32))) a1) 152 (ix (((300 : Int32) * ((xu I 151 (ix (((300 : Int32) * (I 123 30)) + (I 123 32))) a1) 123 30)) + ((xu I 151 (ix (((300 : Int32) * (I 123 30)) + (I 123 32))) a1) 123 32))) a2) 123 32) + (1 : Int32)))) else none) else none) else (some I))
set_option maxHeartbeats 400000 in
set_option maxRecDepth 100000 in
theorem kX12_entry {E : xE} {B : Nat} {n : Nat} {K : Nat → Nat × Nat} {P : Nat → Nat → Nat} {I : Nat → Nat → Int32} {L : Nat → Nat → Int64}  {a1 : Int32} {a2 : Int32} {q : (Nat → Nat → Int32)} (d : Nat) (hd : 0 ≤ d) (G : GW K P)   (hm : mX12_entry I a1 a2 = some q) : MX E B d 0 0 yX12_entry cX12_entry 3 (none : Option Jvm.ClassFile.FieldType) [.ref 123, .int a1, .int a2] (n, K, P, I, L) (none, (n, K, P, q, L)) := by
  refine MX_of (lv := [(0, .ref 123), (1, .int a1), (2, .int a2)]) (by decide +kernel) (Nat.le_of_ble_eq_true rfl) rfl ?_
  unfold mX12_entry at hm
  refine X_aload_n 0 dX12_entry_0 rfl rfl rfl ?_
  refine X_getI fl_X12_199 (g_K123 G) rfl dX12_entry_1 ?_
  refine X_if_ne (tgt := 55) dX12_entry_4 (by decide) (fun c1 => ?_) (fun c1 => ?_)
  · replace hm := iq c1 hm
    replace hm := Option.some.inj hm
    subst hm
    exact X_vret dX12_entry_55 rfl
  · replace hm := ip c1 hm
    refine X_aload_n 0 dX12_entry_7 rfl rfl rfl ?_
    refine X_getPe fl_X12_96 (g_K123 G) rfl (g_P123_38 G) dX12_entry_8 ?_
    refine X_sipush (v := (300 : Int32)) dX12_entry_11 (by decide) ?_
    refine X_aload_n 0 dX12_entry_14 rfl rfl rfl ?_
    refine X_getI fl_X12_229 (g_K123 G) rfl dX12_entry_15 ?_
    refine X_imul dX12_entry_18 ?_
    refine X_aload_n 0 dX12_entry_19 rfl rfl rfl ?_
    refine X_getI fl_X12_232 (g_K123 G) rfl dX12_entry_20 ?_
    refine X_iadd dX12_entry_23 ?_
    refine X_iload_n 1 dX12_entry_24 rfl rfl ?_
    obtain ⟨g2, hm⟩ := og hm
    refine X_iastJ (g_K151 G) g2 rfl dX12_entry_25 ?_
    refine X_aload_n 0 dX12_entry_26 rfl rfl rfl ?_
    refine X_getPe fl_X12_99 (g_K123 G) rfl (g_P123_39 G) dX12_entry_27 ?_
    refine X_sipush (v := (300 : Int32)) dX12_entry_30 (by decide) ?_
    refine X_aload_n 0 dX12_entry_33 rfl rfl rfl ?_
    refine X_getI fl_X12_229 (g_K123 G) rfl dX12_entry_34 ?_
    refine X_imul dX12_entry_37 ?_
    refine X_aload_n 0 dX12_entry_38 rfl rfl rfl ?_
    refine X_getI fl_X12_232 (g_K123 G) rfl dX12_entry_39 ?_
    refine X_iadd dX12_entry_42 ?_
    refine X_iload_n 2 dX12_entry_43 rfl rfl ?_
    obtain ⟨g3, hm⟩ := og hm
    refine X_iastJ (g_K152 G) g3 rfl dX12_entry_44 ?_
    refine X_aload_n 0 dX12_entry_45 rfl rfl rfl ?_
    refine X_dup dX12_entry_46 rfl ?_
    refine X_getI fl_X12_232 (g_K123 G) rfl dX12_entry_47 ?_
    refine X_iconst (v := (1 : Int32)) dX12_entry_50 (by decide) ?_
    refine X_iadd dX12_entry_51 ?_
    refine X_putI fl_X12_232 (g_K123 G) rfl rfl dX12_entry_52 ?_
    replace hm := Option.some.inj hm
    subst hm
    exact X_vret dX12_entry_55 rfl
def mX12_isCounted  (I : Nat → Nat → Int32) (a1 : Int32) : Option ((Nat → Nat → Int32)) := (if (I 123 34) = (60 : Int32) then (Option.bind (mX12_fails I (3 : Int32) a1) (fun q2 => (some (xu q2 123 34 ((q2 123 34) + (1 : Int32)))))) else (some (xu I 123 34 ((I 123 34) + (1 : Int32)))))
set_option maxHeartbeats 400000 in
set_option maxRecDepth 100000 in
theorem kX12_isCounted {E : xE} {B : Nat} {n : Nat} {K : Nat → Nat × Nat} {P : Nat → Nat → Nat} {I : Nat → Nat → Int32} {L : Nat → Nat → Int64}  {a1 : Int32} {q : (Nat → Nat → Int32)} (d : Nat) (hd : 1 ≤ d) (G : GW K P)   (hm : mX12_isCounted I a1 = some q) : MX E B d 0 0 yX12_isCounted cX12_isCounted 2 (none : Option Jvm.ClassFile.FieldType) [.ref 123, .int a1] (n, K, P, I, L) (none, (n, K, P, q, L)) := by
  refine MX_of (lv := [(0, .ref 123), (1, .int a1)]) (by decide +kernel) (Nat.le_of_ble_eq_true rfl) rfl ?_
  obtain ⟨d, rfl⟩ : ∃ d0, d = d0 + 1 := ⟨d - 1, by omega⟩
  unfold mX12_isCounted at hm
  refine X_aload_n 0 dX12_isCounted_0 rfl rfl rfl ?_
  refine X_getI fl_X12_235 (g_K123 G) rfl dX12_isCounted_1 ?_
  refine X_bipush (v := (60 : Int32)) dX12_isCounted_4 (by decide) ?_
  refine X_icmp_ne (tgt := 15) dX12_isCounted_6 (by decide) (fun c1 => ?_) (fun c1 => ?_)
  · replace hm := iq c1 hm
    refine X_aload_n 0 dX12_isCounted_15 rfl rfl rfl ?_
    refine X_dup dX12_isCounted_16 rfl ?_
    refine X_getI fl_X12_235 (g_K123 G) rfl dX12_isCounted_17 ?_
    refine X_iconst (v := (1 : Int32)) dX12_isCounted_20 (by decide) ?_
    refine X_iadd dX12_isCounted_21 ?_
    refine X_putI fl_X12_235 (g_K123 G) rfl rfl dX12_isCounted_22 ?_
    replace hm := Option.some.inj hm
    subst hm
    exact X_vret dX12_isCounted_25 rfl
  · replace hm := ip c1 hm
    refine X_aload_n 0 dX12_isCounted_9 rfl rfl rfl ?_
    refine X_iconst (v := (3 : Int32)) dX12_isCounted_10 (by decide) ?_
    refine X_iload_n 1 dX12_isCounted_11 rfl rfl ?_
    obtain ⟨q2, e3, hm⟩ := ob hm
    refine X_cV0 (ci := 11) (kX12_fails d (by omega) G e3) ml_X12_238 mi_X12_fails rfl cf_11 (g_K123 G) rfl rfl (Nat.le_refl _) ⟨Nat.le_refl _, Nat.le_refl _⟩ (Nat.le_of_ble_eq_true rfl) dX12_isCounted_12 ?_
    refine X_aload_n 0 dX12_isCounted_15 rfl rfl rfl ?_
    refine X_dup dX12_isCounted_16 rfl ?_
    refine X_getI fl_X12_235 (g_K123 G) rfl dX12_isCounted_17 ?_
    refine X_iconst (v := (1 : Int32)) dX12_isCounted_20 (by decide) ?_
    refine X_iadd dX12_isCounted_21 ?_
    refine X_putI fl_X12_235 (g_K123 G) rfl rfl dX12_isCounted_22 ?_
    replace hm := Option.some.inj hm
    subst hm
    exact X_vret dX12_isCounted_25 rfl
def mX12_digits_58 (b25 : (Nat → Nat → Int32) → Int32 → Int32 → Int32 → Option (Int32 × (Nat → Nat → Int32))) (e72 : (Nat → Nat → Int32) → Int32 → Int32 → Int32 → Option (Int32 × (Nat → Nat → Int32))) (I : Nat → Nat → Int32) (a1 : Int32) (a2 : Int32) (t0 : Int32) : Option (Int32 × (Nat → Nat → Int32)) := (b25 (xu I 123 28 ((I 123 28) + (1 : Int32))) a1 a2 t0)
set_option maxHeartbeats 400000 in
set_option maxRecDepth 100000 in
theorem kX12_digits_58 {E : xE} {B : Nat} {n : Nat} {K : Nat → Nat × Nat} {P : Nat → Nat → Nat} {I : Nat → Nat → Int32} {L : Nat → Nat → Int64}  {b25 : (Nat → Nat → Int32) → Int32 → Int32 → Int32 → Option (Int32 × (Nat → Nat → Int32))} {e72 : (Nat → Nat → Int32) → Int32 → Int32 → Int32 → Option (Int32 × (Nat → Nat → Int32))} {a1 : Int32} {a2 : Int32} {t0 : Int32} {q : Int32 × (Nat → Nat → Int32)} (d : Nat) (hd : 2 ≤ d) (G : GW K P)  (hb25 : ∀ (I : Nat → Nat → Int32) (a1 : Int32) (a2 : Int32) (a3 : Int32), b25 I a1 a2 a3 = some q → X E B d 0 0 yX12_digits cX12_digits 4 (some .int) (some (.int q.1), (n, K, P, q.2, L)) 25 [(0, .ref 123), (1, .int a1), (2, .int a2), (3, .int a3)] [] 0 0 (n, K, P, I, L)) (he72 : ∀ (I : Nat → Nat → Int32) (a1 : Int32) (a2 : Int32) (a3 : Int32), e72 I a1 a2 a3 = some q → X E B d 0 0 yX12_digits cX12_digits 4 (some .int) (some (.int q.1), (n, K, P, q.2, L)) 72 [(0, .ref 123), (1, .int a1), (2, .int a2), (3, .int a3)] [] 0 0 (n, K, P, I, L))  (hm : mX12_digits_58 b25 e72 I a1 a2 t0 = some q) : X E B d 0 0 yX12_digits cX12_digits 4 (some .int) (some (.int q.1), (n, K, P, q.2, L)) 58 [(0, .ref 123), (1, .int a1), (2, .int a2)] [.int t0] 0 0 (n, K, P, I, L) := by
  obtain ⟨d, rfl⟩ : ∃ d0, d = d0 + 1 := ⟨d - 1, by omega⟩
  unfold mX12_digits_58 at hm
  refine X_istore_n (lv' := [(3, .int t0), (0, .ref 123), (1, .int a1), (2, .int a2)]) dX12_digits_58 rfl (by decide) rfl ?_
  refine X_aload_n 1 dX12_digits_59 rfl rfl rfl ?_
  refine X_dup dX12_digits_60 rfl ?_
  refine X_getI fl_X12_202 (g_K123 G) rfl dX12_digits_61 ?_
  refine X_iconst (v := (1 : Int32)) dX12_digits_64 (by decide) ?_
  refine X_iadd dX12_digits_65 ?_
  refine X_putI fl_X12_202 (g_K123 G) rfl rfl dX12_digits_66 ?_
  refine X_goto (tgt := 25) dX12_digits_69 (by decide) ?_
  exact X_lv [1, 2, 3, 0] rfl (hb25 _ _ _ _ hm)
def mX12_digits_25  (e72 : (Nat → Nat → Int32) → Int32 → Int32 → Int32 → Option (Int32 × (Nat → Nat → Int32))) : Nat → (Nat → Nat → Int32) → Int32 → Int32 → Int32 → Option (Int32 × (Nat → Nat → Int32))
  | 0, _, _, _, _ => none
  | f + 1, I, a1, a2, a3 => (Option.bind (mX12_isDigit I) (fun q4 => (if q4 = 0 then (e72 I a1 a2 a3) else (if (5 : Int32) ≤ ((I 123 28) - a2) then (mX12_digits_58 (fun (I : Nat → Nat → Int32) (a1 : Int32) (a2 : Int32) (a3 : Int32) => mX12_digits_25 e72 f I a1 a2 a3) e72 I a1 a2 a3) else (Option.bind (mX12_sign I) (fun q8 => (mX12_digits_58 (fun (I : Nat → Nat → Int32) (a1 : Int32) (a2 : Int32) (a3 : Int32) => mX12_digits_25 e72 f I a1 a2 a3) e72 I a1 a2 ((((10 : Int32) * a3) + q8) - (48 : Int32)))))))))
set_option maxHeartbeats 400000 in
set_option maxRecDepth 100000 in
theorem kX12_digits_25 {E : xE} {B : Nat} {n : Nat} {K : Nat → Nat × Nat} {P : Nat → Nat → Nat} {L : Nat → Nat → Int64}  {e72 : (Nat → Nat → Int32) → Int32 → Int32 → Int32 → Option (Int32 × (Nat → Nat → Int32))} {q : Int32 × (Nat → Nat → Int32)} (d : Nat) (hd : 2 ≤ d) (G : GW K P)  (he72 : ∀ (I : Nat → Nat → Int32) (a1 : Int32) (a2 : Int32) (a3 : Int32), e72 I a1 a2 a3 = some q → X E B d 0 0 yX12_digits cX12_digits 4 (some .int) (some (.int q.1), (n, K, P, q.2, L)) 72 [(0, .ref 123), (1, .int a1), (2, .int a2), (3, .int a3)] [] 0 0 (n, K, P, I, L)) : ∀ (f : Nat) (I : Nat → Nat → Int32) (a1 : Int32) (a2 : Int32) (a3 : Int32), mX12_digits_25 e72 f I a1 a2 a3 = some q → X E B d 0 0 yX12_digits cX12_digits 4 (some .int) (some (.int q.1), (n, K, P, q.2, L)) 25 [(0, .ref 123), (1, .int a1), (2, .int a2), (3, .int a3)] [] 0 0 (n, K, P, I, L) := by
  obtain ⟨d, rfl⟩ : ∃ d0, d = d0 + 1 := ⟨d - 1, by omega⟩
  intro f
  induction f with
  | zero => intro _ _ _ _ hm; exact nomatch (show (none : Option (Int32 × (Nat → Nat → Int32))) = some q from hm)
  | succ f ih =>
    intro I a1 a2 a3 hm
    rw [mX12_digits_25] at hm
    refine X_aload_n 0 dX12_digits_25 rfl rfl rfl ?_
    obtain ⟨q4, e5, hm⟩ := ob hm
    refine X_cV1 (ci := 11) (kX12_isDigit d (by omega) G e5) ml_X12_242 mi_X12_isDigit rfl cf_11 (g_K123 G) rfl rfl (Nat.le_refl _) ⟨Nat.le_refl _, Nat.le_refl _⟩ (Nat.le_of_ble_eq_true rfl) dX12_digits_26 ?_
    refine X_if_eq (tgt := 72) dX12_digits_29 (by decide) (fun c6 => ?_) (fun c6 => ?_)
    · replace hm := ip c6 hm
      exact he72 _ _ _ _ hm
    · replace hm := iq c6 hm
      refine X_aload_n 0 dX12_digits_32 rfl rfl rfl ?_
      refine X_getI fl_X12_202 (g_K123 G) rfl dX12_digits_33 ?_
      refine X_iload_n 2 dX12_digits_36 rfl rfl ?_
      refine X_isub dX12_digits_37 ?_
      refine X_iconst (v := (5 : Int32)) dX12_digits_38 (by decide) ?_
      refine X_icmp_ge (tgt := 57) dX12_digits_39 (by decide) (fun c7 => ?_) (fun c7 => ?_)
      · replace hm := ip c7 hm
        refine X_iload_n 3 dX12_digits_57 rfl rfl ?_
        exact X_lv [0, 1, 2] rfl (kX12_digits_58 _ hd G ih he72 hm)
      · replace hm := iq c7 hm
        refine X_bipush (v := (10 : Int32)) dX12_digits_42 (by decide) ?_
        refine X_iload_n 3 dX12_digits_44 rfl rfl ?_
        refine X_imul dX12_digits_45 ?_
        refine X_aload_n 0 dX12_digits_46 rfl rfl rfl ?_
        obtain ⟨q8, e9, hm⟩ := ob hm
        refine X_cV1 (ci := 11) (kX12_sign d (by omega) G e9) ml_X12_205 mi_X12_sign rfl cf_11 (g_K123 G) rfl rfl (Nat.le_refl _) ⟨Nat.le_refl _, Nat.le_refl _⟩ (Nat.le_of_ble_eq_true rfl) dX12_digits_47 ?_
        refine X_iadd dX12_digits_50 ?_
        refine X_bipush (v := (48 : Int32)) dX12_digits_51 (by decide) ?_
        refine X_isub dX12_digits_53 ?_
        refine X_goto (tgt := 58) dX12_digits_54 (by decide) ?_
        exact X_lv [0, 1, 2] rfl (kX12_digits_58 _ hd G ih he72 hm)
def mX12_digits_87  (I : Nat → Nat → Int32) (a2 : Int32) (a3 : Int32) : Option (Int32 × (Nat → Nat → Int32)) := (Option.bind (mX12_fails I (1 : Int32) a2) (fun q12 => (some (a3, q12))))
set_option maxHeartbeats 400000 in
set_option maxRecDepth 100000 in
theorem kX12_digits_87 {E : xE} {B : Nat} {n : Nat} {K : Nat → Nat × Nat} {P : Nat → Nat → Nat} {I : Nat → Nat → Int32} {L : Nat → Nat → Int64}   {a2 : Int32} {a3 : Int32} {q : Int32 × (Nat → Nat → Int32)} (d : Nat) (hd : 2 ≤ d) (G : GW K P)    (hm : mX12_digits_87 I a2 a3 = some q) : X E B d 0 0 yX12_digits cX12_digits 4 (some .int) (some (.int q.1), (n, K, P, q.2, L)) 87 [(0, .ref 123), (2, .int a2), (3, .int a3)] [] 0 0 (n, K, P, I, L) := by
  obtain ⟨d, rfl⟩ : ∃ d0, d = d0 + 1 := ⟨d - 1, by omega⟩
  unfold mX12_digits_87 at hm
  refine X_aload_n 0 dX12_digits_87 rfl rfl rfl ?_
  refine X_iconst (v := (1 : Int32)) dX12_digits_88 (by decide) ?_
  refine X_iload_n 1 dX12_digits_89 rfl rfl ?_
  obtain ⟨q12, e13, hm⟩ := ob hm
  refine X_cV0 (ci := 11) (kX12_fails d (by omega) G e13) ml_X12_238 mi_X12_fails rfl cf_11 (g_K123 G) rfl rfl (Nat.le_refl _) ⟨Nat.le_refl _, Nat.le_refl _⟩ (Nat.le_of_ble_eq_true rfl) dX12_digits_90 ?_
  refine X_iload_n 2 dX12_digits_93 rfl rfl ?_
  replace hm := Option.some.inj hm
  subst hm
  exact X_iret dX12_digits_94 rfl
def mX12_digits  (I : Nat → Nat → Int32) (a1 : Int32) : Option (Int32 × (Nat → Nat → Int32)) := (Option.bind (mX12_isDigit I) (fun q1 => (if q1 = 0 then (Option.bind (mX12_fails I (0 : Int32) (I 123 28)) (fun q15 => (some ((0 : Int32), q15)))) else (mX12_digits_25 (fun (I_10 : (Nat → Nat → Int32)) (a1_10 : Int32) (a2_10 : Int32) (a3_10 : Int32) => (if (5 : Int32) < ((I_10 123 28) - a2_10) then (mX12_digits_87 I_10 a2_10 a3_10) else (if a3_10 ≤ a1_10 then (some (a3_10, I_10)) else (mX12_digits_87 I_10 a2_10 a3_10)))) xf I a1 (I 123 28) (0 : Int32)))))
set_option maxHeartbeats 400000 in
set_option maxRecDepth 100000 in
theorem kX12_digits {E : xE} {B : Nat} {n : Nat} {K : Nat → Nat × Nat} {P : Nat → Nat → Nat} {I : Nat → Nat → Int32} {L : Nat → Nat → Int64}  {a1 : Int32} {q : Int32 × (Nat → Nat → Int32)} (d : Nat) (hd : 2 ≤ d) (G : GW K P)   (hm : mX12_digits I a1 = some q) : MX E B d 0 0 yX12_digits cX12_digits 4 (some .int) [.ref 123, .int a1] (n, K, P, I, L) (some (.int q.1), (n, K, P, q.2, L)) := by
  refine MX_of (lv := [(0, .ref 123), (1, .int a1)]) (by decide +kernel) (Nat.le_of_ble_eq_true rfl) rfl ?_
  obtain ⟨d, rfl⟩ : ∃ d0, d = d0 + 1 := ⟨d - 1, by omega⟩
  unfold mX12_digits at hm
  refine X_aload_n 0 dX12_digits_0 rfl rfl rfl ?_
  obtain ⟨q1, e2, hm⟩ := ob hm
  refine X_cV1 (ci := 11) (kX12_isDigit d (by omega) G e2) ml_X12_242 mi_X12_isDigit rfl cf_11 (g_K123 G) rfl rfl (Nat.le_refl _) ⟨Nat.le_refl _, Nat.le_refl _⟩ (Nat.le_of_ble_eq_true rfl) dX12_digits_1 ?_
  refine X_if_ne (tgt := 18) dX12_digits_4 (by decide) (fun c3 => ?_) (fun c3 => ?_)
  · replace hm := iq c3 hm
    refine X_aload_n 0 dX12_digits_18 rfl rfl rfl ?_
    refine X_getI fl_X12_202 (g_K123 G) rfl dX12_digits_19 ?_
    refine X_istore_n (lv' := [(2, .int (I 123 28)), (0, .ref 123), (1, .int a1)]) dX12_digits_22 rfl (by decide) rfl ?_
    refine X_iconst (v := (0 : Int32)) dX12_digits_23 (by decide) ?_
    refine X_istore_n (lv' := [(3, .int (0 : Int32)), (2, .int (I 123 28)), (0, .ref 123), (1, .int a1)]) dX12_digits_24 rfl (by decide) rfl ?_
    refine X_lv [2, 3, 1, 0] rfl (kX12_digits_25 _ hd G (fun I_10 a1_10 a2_10 a3_10 hm => ?_) xf _ _ _ _  hm)
    refine X_aload_n 0 dX12_digits_72 rfl rfl rfl ?_
    refine X_getI fl_X12_202 (g_K123 G) rfl dX12_digits_73 ?_
    refine X_iload_n 2 dX12_digits_76 rfl rfl ?_
    refine X_isub dX12_digits_77 ?_
    refine X_iconst (v := (5 : Int32)) dX12_digits_78 (by decide) ?_
    refine X_icmp_gt (tgt := 87) dX12_digits_79 (by decide) (fun c11 => ?_) (fun c11 => ?_)
    · replace hm := ip c11 hm
      exact X_lv [0, 2, 3] rfl (kX12_digits_87 _ hd G hm)
    · replace hm := iq c11 hm
      refine X_iload_n 3 dX12_digits_82 rfl rfl ?_
      refine X_iload_n 1 dX12_digits_83 rfl rfl ?_
      refine X_icmp_le (tgt := 93) dX12_digits_84 (by decide) (fun c14 => ?_) (fun c14 => ?_)
      · replace hm := ip c14 hm
        refine X_iload_n 3 dX12_digits_93 rfl rfl ?_
        replace hm := Option.some.inj hm
        subst hm
        exact X_iret dX12_digits_94 rfl
      · replace hm := iq c14 hm
        exact X_lv [0, 2, 3] rfl (kX12_digits_87 _ hd G hm)
  · replace hm := ip c3 hm
    refine X_aload_n 0 dX12_digits_7 rfl rfl rfl ?_
    refine X_iconst (v := (0 : Int32)) dX12_digits_8 (by decide) ?_
    refine X_aload_n 0 dX12_digits_9 rfl rfl rfl ?_
    refine X_getI fl_X12_202 (g_K123 G) rfl dX12_digits_10 ?_
    obtain ⟨q15, e16, hm⟩ := ob hm
    refine X_cV0 (ci := 11) (kX12_fails d (by omega) G e16) ml_X12_238 mi_X12_fails rfl cf_11 (g_K123 G) rfl rfl (Nat.le_refl _) ⟨Nat.le_refl _, Nat.le_refl _⟩ (Nat.le_of_ble_eq_true rfl) dX12_digits_13 ?_
    refine X_iconst (v := (0 : Int32)) dX12_digits_16 (by decide) ?_
    replace hm := Option.some.inj hm
    subst hm
    exact X_iret dX12_digits_17 rfl
def mX12_value_37  (e62 : (Nat → Nat → Int32) → Int32 → Int32 → Option ((Nat → Nat → Int32))) : Nat → (Nat → Nat → Int32) → Int32 → Int32 → Option ((Nat → Nat → Int32))
  | 0, _, _, _ => none
  | f + 1, I, a1, a2 => (if (I 123 36) ≤ a2 then (e62 I a1 a2) else (Option.bind (mX12_wordOf a2) (fun q7 => (Option.bind (mX12_stood I q7) (fun q9 => (if q9 = 0 then (mX12_value_37 e62 f I a1 (a2 + 1)) else (e62 I a1 a2)))))))
set_option maxHeartbeats 400000 in
set_option maxRecDepth 100000 in
theorem kX12_value_37 {E : xE} {B : Nat} {n : Nat} {K : Nat → Nat × Nat} {P : Nat → Nat → Nat} {L : Nat → Nat → Int64}  {e62 : (Nat → Nat → Int32) → Int32 → Int32 → Option ((Nat → Nat → Int32))} {q : (Nat → Nat → Int32)} (d : Nat) (hd : 6 ≤ d) (G : GW K P)  (he62 : ∀ (I : Nat → Nat → Int32) (a1 : Int32) (a2 : Int32), e62 I a1 a2 = some q → X E B d 0 0 yX12_value cX12_value 3 (none : Option Jvm.ClassFile.FieldType) (none, (n, K, P, q, L)) 62 [(0, .ref 123), (1, .int a1), (2, .int a2)] [] 0 0 (n, K, P, I, L)) : ∀ (f : Nat) (I : Nat → Nat → Int32) (a1 : Int32) (a2 : Int32), mX12_value_37 e62 f I a1 a2 = some q → X E B d 0 0 yX12_value cX12_value 3 (none : Option Jvm.ClassFile.FieldType) (none, (n, K, P, q, L)) 37 [(0, .ref 123), (1, .int a1), (2, .int a2)] [] 0 0 (n, K, P, I, L) := by
  obtain ⟨d, rfl⟩ : ∃ d0, d = d0 + 1 := ⟨d - 1, by omega⟩
  intro f
  induction f with
  | zero => intro _ _ _ hm; exact nomatch (show (none : Option ((Nat → Nat → Int32))) = some q from hm)
  | succ f ih =>
    intro I a1 a2 hm
    rw [mX12_value_37] at hm
    refine X_iload_n 2 dX12_value_37 rfl rfl ?_
    refine X_aload_n 0 dX12_value_38 rfl rfl rfl ?_
    refine X_getI fl_X12_88 (g_K123 G) rfl dX12_value_39 ?_
    refine X_icmp_ge (tgt := 62) dX12_value_42 (by decide) (fun c6 => ?_) (fun c6 => ?_)
    · replace hm := ip c6 hm
      exact he62 _ _ _ hm
    · replace hm := iq c6 hm
      refine X_aload_n 0 dX12_value_45 rfl rfl rfl ?_
      refine X_iload_n 2 dX12_value_46 rfl rfl ?_
      obtain ⟨q7, e8, hm⟩ := ob hm
      refine X_cS1 (kX12_wordOf d (by omega) G e8) ml_X12_257 ms_X12_wordOf rfl rfl (Nat.le_refl _) ⟨Nat.le_refl _, Nat.le_refl _⟩ (Nat.le_of_ble_eq_true rfl) dX12_value_47 ?_
      obtain ⟨q9, e10, hm⟩ := ob hm
      refine X_cV1 (ci := 11) (kX12_stood d (by omega) G (rs_X12_wordOf e8) e10) ml_X12_225 mi_X12_stood rfl cf_11 (g_K123 G) rfl rfl (Nat.le_refl _) ⟨Nat.le_refl _, Nat.le_refl _⟩ (Nat.le_of_ble_eq_true rfl) dX12_value_50 ?_
      refine X_if_ne (tgt := 62) dX12_value_53 (by decide) (fun c11 => ?_) (fun c11 => ?_)
      · replace hm := iq c11 hm
        exact he62 _ _ _ hm
      · replace hm := ip c11 hm
        refine X_iinc (lv' := [(2, .int (a2 + 1)), (0, .ref 123), (1, .int a1)]) 2 dX12_value_56 rfl rfl (by decide) rfl ?_
        refine X_goto (tgt := 37) dX12_value_59 (by decide) ?_
        exact X_lv [1, 2, 0] rfl (ih _ _ _ hm)
def mX12_value_62  (I : Nat → Nat → Int32) (a1 : Int32) (a2 : Int32) : Option ((Nat → Nat → Int32)) := (if a2 = (I 123 36) then (Option.bind (mX12_fails I (0 : Int32) a1) (fun q22 => (some q22))) else (Option.bind (mX12_isCounted I a1) (fun q14 => (Option.bind (mX12_wordOf a2) (fun q16 => (Option.bind (mJ0_length_8abf5 q16) (fun q18 => (Option.bind (mX12_entry (xu q14 123 28 ((q14 123 28) + q18)) (1 : Int32) a2) (fun q20 => (some q20))))))))))
set_option maxHeartbeats 400000 in
set_option maxRecDepth 100000 in
theorem kX12_value_62 {E : xE} {B : Nat} {n : Nat} {K : Nat → Nat × Nat} {P : Nat → Nat → Nat} {I : Nat → Nat → Int32} {L : Nat → Nat → Int64}   {a1 : Int32} {a2 : Int32} {q : (Nat → Nat → Int32)} (d : Nat) (hd : 6 ≤ d) (G : GW K P)    (hm : mX12_value_62 I a1 a2 = some q) : X E B d 0 0 yX12_value cX12_value 3 (none : Option Jvm.ClassFile.FieldType) (none, (n, K, P, q, L)) 62 [(0, .ref 123), (1, .int a1), (2, .int a2)] [] 0 0 (n, K, P, I, L) := by
  obtain ⟨d, rfl⟩ : ∃ d0, d = d0 + 1 := ⟨d - 1, by omega⟩
  unfold mX12_value_62 at hm
  refine X_iload_n 2 dX12_value_62 rfl rfl ?_
  refine X_aload_n 0 dX12_value_63 rfl rfl rfl ?_
  refine X_getI fl_X12_88 (g_K123 G) rfl dX12_value_64 ?_
  refine X_icmp_ne (tgt := 77) dX12_value_67 (by decide) (fun c13 => ?_) (fun c13 => ?_)
  · replace hm := iq c13 hm
    refine X_aload_n 0 dX12_value_77 rfl rfl rfl ?_
    refine X_iload_n 1 dX12_value_78 rfl rfl ?_
    obtain ⟨q14, e15, hm⟩ := ob hm
    refine X_cV0 (ci := 11) (kX12_isCounted d (by omega) G e15) ml_X12_251 mi_X12_isCounted rfl cf_11 (g_K123 G) rfl rfl (Nat.le_refl _) ⟨Nat.le_refl _, Nat.le_refl _⟩ (Nat.le_of_ble_eq_true rfl) dX12_value_79 ?_
    refine X_aload_n 0 dX12_value_82 rfl rfl rfl ?_
    refine X_dup dX12_value_83 rfl ?_
    refine X_getI fl_X12_202 (g_K123 G) rfl dX12_value_84 ?_
    refine X_iload_n 2 dX12_value_87 rfl rfl ?_
    obtain ⟨q16, e17, hm⟩ := ob hm
    refine X_cS1 (kX12_wordOf d (by omega) G e17) ml_X12_257 ms_X12_wordOf rfl rfl (Nat.le_refl _) ⟨Nat.le_refl _, Nat.le_refl _⟩ (Nat.le_of_ble_eq_true rfl) dX12_value_88 ?_
    obtain ⟨q18, e19, hm⟩ := ob hm
    refine X_cT1 (kJ0_length_8abf5 d (by omega) G (rs_X12_wordOf e17) e19) ml_X12_213 mi_J0_length_8abf5 rfl (rs_X12_wordOf e17) rfl rfl (Nat.le_refl _) ⟨Nat.le_refl _, Nat.le_refl _⟩ (Nat.le_of_ble_eq_true rfl) dX12_value_91 ?_
    refine X_iadd dX12_value_94 ?_
    refine X_putI fl_X12_202 (g_K123 G) rfl rfl dX12_value_95 ?_
    refine X_aload_n 0 dX12_value_98 rfl rfl rfl ?_
    refine X_iconst (v := (1 : Int32)) dX12_value_99 (by decide) ?_
    refine X_iload_n 2 dX12_value_100 rfl rfl ?_
    obtain ⟨q20, e21, hm⟩ := ob hm
    refine X_cV0 (ci := 11) (kX12_entry d (by omega) G e21) ml_X12_254 mi_X12_entry rfl cf_11 (g_K123 G) rfl rfl (Nat.le_refl _) ⟨Nat.le_refl _, Nat.le_refl _⟩ (Nat.le_of_ble_eq_true rfl) dX12_value_101 ?_
    replace hm := Option.some.inj hm
    subst hm
    exact X_vret dX12_value_104 rfl
  · replace hm := ip c13 hm
    refine X_aload_n 0 dX12_value_70 rfl rfl rfl ?_
    refine X_iconst (v := (0 : Int32)) dX12_value_71 (by decide) ?_
    refine X_iload_n 1 dX12_value_72 rfl rfl ?_
    obtain ⟨q22, e23, hm⟩ := ob hm
    refine X_cV0 (ci := 11) (kX12_fails d (by omega) G e23) ml_X12_238 mi_X12_fails rfl cf_11 (g_K123 G) rfl rfl (Nat.le_refl _) ⟨Nat.le_refl _, Nat.le_refl _⟩ (Nat.le_of_ble_eq_true rfl) dX12_value_73 ?_
    replace hm := Option.some.inj hm
    subst hm
    exact X_vret dX12_value_76 rfl
def mX12_value  (I : Nat → Nat → Int32) : Option ((Nat → Nat → Int32)) := (Option.bind (mX12_blanks I) (fun q1 => (Option.bind (mX12_isDigit q1) (fun q3 => (if q3 = 0 then (mX12_value_37 (fun (I_12 : (Nat → Nat → Int32)) (a1_12 : Int32) (a2_12 : Int32) => (mX12_value_62 I_12 a1_12 a2_12)) xf q1 (q1 123 28) (0 : Int32)) else (Option.bind (mX12_digits q1 (99999 : Int32)) (fun q24 => (Option.bind (mX12_isCounted q24.2 (q1 123 28)) (fun q26 => (Option.bind (mX12_entry q26 (0 : Int32) q24.1) (fun q28 => (some q28))))))))))))
set_option maxHeartbeats 400000 in
set_option maxRecDepth 100000 in
theorem kX12_value {E : xE} {B : Nat} {n : Nat} {K : Nat → Nat × Nat} {P : Nat → Nat → Nat} {I : Nat → Nat → Int32} {L : Nat → Nat → Int64}   {q : (Nat → Nat → Int32)} (d : Nat) (hd : 6 ≤ d) (G : GW K P)   (hm : mX12_value I = some q) : MX E B d 0 0 yX12_value cX12_value 3 (none : Option Jvm.ClassFile.FieldType) [.ref 123] (n, K, P, I, L) (none, (n, K, P, q, L)) := by
  refine MX_of (lv := [(0, .ref 123)]) (by decide +kernel) (Nat.le_of_ble_eq_true rfl) rfl ?_
  obtain ⟨d, rfl⟩ : ∃ d0, d = d0 + 1 := ⟨d - 1, by omega⟩
  unfold mX12_value at hm
  refine X_aload_n 0 dX12_value_0 rfl rfl rfl ?_
  obtain ⟨q1, e2, hm⟩ := ob hm
  refine X_cV0 (ci := 11) (kX12_blanks d (by omega) G e2) ml_X12_222 mi_X12_blanks rfl cf_11 (g_K123 G) rfl rfl (Nat.le_refl _) ⟨Nat.le_refl _, Nat.le_refl _⟩ (Nat.le_of_ble_eq_true rfl) dX12_value_1 ?_
  refine X_aload_n 0 dX12_value_4 rfl rfl rfl ?_
  refine X_getI fl_X12_202 (g_K123 G) rfl dX12_value_5 ?_
  refine X_istore_n (lv' := [(1, .int (q1 123 28)), (0, .ref 123)]) dX12_value_8 rfl (by decide) rfl ?_
  refine X_aload_n 1 dX12_value_9 rfl rfl rfl ?_
  obtain ⟨q3, e4, hm⟩ := ob hm
  refine X_cV1 (ci := 11) (kX12_isDigit d (by omega) G e4) ml_X12_242 mi_X12_isDigit rfl cf_11 (g_K123 G) rfl rfl (Nat.le_refl _) ⟨Nat.le_refl _, Nat.le_refl _⟩ (Nat.le_of_ble_eq_true rfl) dX12_value_10 ?_
  refine X_if_eq (tgt := 35) dX12_value_13 (by decide) (fun c5 => ?_) (fun c5 => ?_)
  · replace hm := ip c5 hm
    refine X_iconst (v := (0 : Int32)) dX12_value_35 (by decide) ?_
    refine X_istore_n (lv' := [(2, .int (0 : Int32)), (1, .int (q1 123 28)), (0, .ref 123)]) dX12_value_36 rfl (by decide) rfl ?_
    refine X_lv [2, 1, 0] rfl (kX12_value_37 _ hd G (fun I_12 a1_12 a2_12 hm => ?_) xf _ _ _  hm)
    exact kX12_value_62 _ hd G hm
  · replace hm := iq c5 hm
    refine X_aload_n 1 dX12_value_16 rfl rfl rfl ?_
    refine X_ldc lc_X12_246 dX12_value_17 ?_
    obtain ⟨q24, e25, hm⟩ := ob hm
    refine X_cV1 (ci := 11) (kX12_digits d (by omega) G e25) ml_X12_247 mi_X12_digits rfl cf_11 (g_K123 G) rfl rfl (Nat.le_refl _) ⟨Nat.le_refl _, Nat.le_refl _⟩ (Nat.le_of_ble_eq_true rfl) dX12_value_19 ?_
    refine X_istore_n (lv' := [(2, .int q24.1), (1, .int (q1 123 28)), (0, .ref 123)]) dX12_value_22 rfl (by decide) rfl ?_
    refine X_aload_n 2 dX12_value_23 rfl rfl rfl ?_
    refine X_iload_n 1 dX12_value_24 rfl rfl ?_
    obtain ⟨q26, e27, hm⟩ := ob hm
    refine X_cV0 (ci := 11) (kX12_isCounted d (by omega) G e27) ml_X12_251 mi_X12_isCounted rfl cf_11 (g_K123 G) rfl rfl (Nat.le_refl _) ⟨Nat.le_refl _, Nat.le_refl _⟩ (Nat.le_of_ble_eq_true rfl) dX12_value_25 ?_
    refine X_aload_n 2 dX12_value_28 rfl rfl rfl ?_
    refine X_iconst (v := (0 : Int32)) dX12_value_29 (by decide) ?_
    refine X_iload_n 0 dX12_value_30 rfl rfl ?_
    obtain ⟨q28, e29, hm⟩ := ob hm
    refine X_cV0 (ci := 11) (kX12_entry d (by omega) G e29) ml_X12_254 mi_X12_entry rfl cf_11 (g_K123 G) rfl rfl (Nat.le_refl _) ⟨Nat.le_refl _, Nat.le_refl _⟩ (Nat.le_of_ble_eq_true rfl) dX12_value_31 ?_
    replace hm := Option.some.inj hm
    subst hm
    exact X_vret dX12_value_34 rfl
def mX12_term_72 (b8 : (Nat → Nat → Int32) → Option ((Nat → Nat → Int32))) (I : Nat → Nat → Int32) (t0 : Int32) : Option ((Nat → Nat → Int32)) := (Option.bind (mX12_value (xu I 123 28 ((I 123 28) + (1 : Int32)))) (fun q15 => (Option.bind (mX12_entry q15 t0 (0 : Int32)) (fun q17 => (Option.bind (mX12_blanks q17) (fun q19 => (b8 q19)))))))
set_option maxHeartbeats 400000 in
set_option maxRecDepth 100000 in
theorem kX12_term_72 {E : xE} {B : Nat} {n : Nat} {K : Nat → Nat × Nat} {P : Nat → Nat → Nat} {I : Nat → Nat → Int32} {L : Nat → Nat → Int64}  {b8 : (Nat → Nat → Int32) → Option ((Nat → Nat → Int32))} {t0 : Int32} {q : (Nat → Nat → Int32)} (d : Nat) (hd : 7 ≤ d) (G : GW K P)  (hb8 : ∀ (I : Nat → Nat → Int32), b8 I = some q → X E B d 0 0 yX12_term cX12_term 2 (none : Option Jvm.ClassFile.FieldType) (none, (n, K, P, q, L)) 8 [(0, .ref 123)] [] 0 0 (n, K, P, I, L))  (hm : mX12_term_72 b8 I t0 = some q) : X E B d 0 0 yX12_term cX12_term 2 (none : Option Jvm.ClassFile.FieldType) (none, (n, K, P, q, L)) 72 [(0, .ref 123)] [.int t0] 0 0 (n, K, P, I, L) := by
  obtain ⟨d, rfl⟩ : ∃ d0, d = d0 + 1 := ⟨d - 1, by omega⟩
  unfold mX12_term_72 at hm
  refine X_istore_n (lv' := [(1, .int t0), (0, .ref 123)]) dX12_term_72 rfl (by decide) rfl ?_
  refine X_aload_n 1 dX12_term_73 rfl rfl rfl ?_
  refine X_dup dX12_term_74 rfl ?_
  refine X_getI fl_X12_202 (g_K123 G) rfl dX12_term_75 ?_
  refine X_iconst (v := (1 : Int32)) dX12_term_78 (by decide) ?_
  refine X_iadd dX12_term_79 ?_
  refine X_putI fl_X12_202 (g_K123 G) rfl rfl dX12_term_80 ?_
  refine X_aload_n 1 dX12_term_83 rfl rfl rfl ?_
  obtain ⟨q15, e16, hm⟩ := ob hm
  refine X_cV0 (ci := 11) (kX12_value d (by omega) G e16) ml_X12_261 mi_X12_value rfl cf_11 (g_K123 G) rfl rfl (Nat.le_refl _) ⟨Nat.le_refl _, Nat.le_refl _⟩ (Nat.le_of_ble_eq_true rfl) dX12_term_84 ?_
  refine X_aload_n 1 dX12_term_87 rfl rfl rfl ?_
  refine X_iload_n 0 dX12_term_88 rfl rfl ?_
  refine X_iconst (v := (0 : Int32)) dX12_term_89 (by decide) ?_
  obtain ⟨q17, e18, hm⟩ := ob hm
  refine X_cV0 (ci := 11) (kX12_entry d (by omega) G e18) ml_X12_254 mi_X12_entry rfl cf_11 (g_K123 G) rfl rfl (Nat.le_refl _) ⟨Nat.le_refl _, Nat.le_refl _⟩ (Nat.le_of_ble_eq_true rfl) dX12_term_90 ?_
  refine X_aload_n 1 dX12_term_93 rfl rfl rfl ?_
  obtain ⟨q19, e20, hm⟩ := ob hm
  refine X_cV0 (ci := 11) (kX12_blanks d (by omega) G e20) ml_X12_222 mi_X12_blanks rfl cf_11 (g_K123 G) rfl rfl (Nat.le_refl _) ⟨Nat.le_refl _, Nat.le_refl _⟩ (Nat.le_of_ble_eq_true rfl) dX12_term_94 ?_
  refine X_goto (tgt := 8) dX12_term_97 (by decide) ?_
  exact X_lv [1] rfl (hb8 _ hm)
def mX12_term_42 (b8 : (Nat → Nat → Int32) → Option ((Nat → Nat → Int32))) (I : Nat → Nat → Int32) : Option ((Nat → Nat → Int32)) := (Option.bind (mX12_sign I) (fun q9 => (if q9 = (42 : Int32) then (mX12_term_72 b8 I (13 : Int32)) else (Option.bind (mX12_sign I) (fun q12 => (if q12 = (47 : Int32) then (mX12_term_72 b8 I (14 : Int32)) else (mX12_term_72 b8 I (15 : Int32))))))))
set_option maxHeartbeats 400000 in
set_option maxRecDepth 100000 in
theorem kX12_term_42 {E : xE} {B : Nat} {n : Nat} {K : Nat → Nat × Nat} {P : Nat → Nat → Nat} {I : Nat → Nat → Int32} {L : Nat → Nat → Int64}  {b8 : (Nat → Nat → Int32) → Option ((Nat → Nat → Int32))}  {q : (Nat → Nat → Int32)} (d : Nat) (hd : 7 ≤ d) (G : GW K P)  (hb8 : ∀ (I : Nat → Nat → Int32), b8 I = some q → X E B d 0 0 yX12_term cX12_term 2 (none : Option Jvm.ClassFile.FieldType) (none, (n, K, P, q, L)) 8 [(0, .ref 123)] [] 0 0 (n, K, P, I, L))  (hm : mX12_term_42 b8 I = some q) : X E B d 0 0 yX12_term cX12_term 2 (none : Option Jvm.ClassFile.FieldType) (none, (n, K, P, q, L)) 42 [(0, .ref 123)] [] 0 0 (n, K, P, I, L) := by
  obtain ⟨d, rfl⟩ : ∃ d0, d = d0 + 1 := ⟨d - 1, by omega⟩
  unfold mX12_term_42 at hm
  refine X_aload_n 0 dX12_term_42 rfl rfl rfl ?_
  obtain ⟨q9, e10, hm⟩ := ob hm
  refine X_cV1 (ci := 11) (kX12_sign d (by omega) G e10) ml_X12_205 mi_X12_sign rfl cf_11 (g_K123 G) rfl rfl (Nat.le_refl _) ⟨Nat.le_refl _, Nat.le_refl _⟩ (Nat.le_of_ble_eq_true rfl) dX12_term_43 ?_
  refine X_bipush (v := (42 : Int32)) dX12_term_46 (by decide) ?_
  refine X_icmp_ne (tgt := 56) dX12_term_48 (by decide) (fun c11 => ?_) (fun c11 => ?_)
  · replace hm := iq c11 hm
    refine X_aload_n 0 dX12_term_56 rfl rfl rfl ?_
    obtain ⟨q12, e13, hm⟩ := ob hm
    refine X_cV1 (ci := 11) (kX12_sign d (by omega) G e13) ml_X12_205 mi_X12_sign rfl cf_11 (g_K123 G) rfl rfl (Nat.le_refl _) ⟨Nat.le_refl _, Nat.le_refl _⟩ (Nat.le_of_ble_eq_true rfl) dX12_term_57 ?_
    refine X_bipush (v := (47 : Int32)) dX12_term_60 (by decide) ?_
    refine X_icmp_ne (tgt := 70) dX12_term_62 (by decide) (fun c14 => ?_) (fun c14 => ?_)
    · replace hm := iq c14 hm
      refine X_bipush (v := (15 : Int32)) dX12_term_70 (by decide) ?_
      exact kX12_term_72 _ hd G hb8 hm
    · replace hm := ip c14 hm
      refine X_bipush (v := (14 : Int32)) dX12_term_65 (by decide) ?_
      refine X_goto (tgt := 72) dX12_term_67 (by decide) ?_
      exact kX12_term_72 _ hd G hb8 hm
  · replace hm := ip c11 hm
    refine X_bipush (v := (13 : Int32)) dX12_term_51 (by decide) ?_
    refine X_goto (tgt := 72) dX12_term_53 (by decide) ?_
    exact kX12_term_72 _ hd G hb8 hm
def mX12_term_8   : Nat → (Nat → Nat → Int32) → Option ((Nat → Nat → Int32))
  | 0, _ => none
  | f + 1, I => (if (I 123 29) = 0 then (Option.bind (mX12_sign I) (fun q6 => (if q6 = (42 : Int32) then (mX12_term_42 (fun (I : Nat → Nat → Int32) => mX12_term_8  f I) I) else (Option.bind (mX12_sign I) (fun q21 => (if q21 = (47 : Int32) then (mX12_term_42 (fun (I : Nat → Nat → Int32) => mX12_term_8  f I) I) else (Option.bind (mX12_sign I) (fun q24 => (if q24 = (37 : Int32) then (mX12_term_42 (fun (I : Nat → Nat → Int32) => mX12_term_8  f I) I) else (some I)))))))))) else (some I))
set_option maxHeartbeats 400000 in
set_option maxRecDepth 100000 in
theorem kX12_term_8 {E : xE} {B : Nat} {n : Nat} {K : Nat → Nat × Nat} {P : Nat → Nat → Nat} {L : Nat → Nat → Int64}   {q : (Nat → Nat → Int32)} (d : Nat) (hd : 7 ≤ d) (G : GW K P)   : ∀ (f : Nat) (I : Nat → Nat → Int32), mX12_term_8 f I = some q → X E B d 0 0 yX12_term cX12_term 2 (none : Option Jvm.ClassFile.FieldType) (none, (n, K, P, q, L)) 8 [(0, .ref 123)] [] 0 0 (n, K, P, I, L) := by
  obtain ⟨d, rfl⟩ : ∃ d0, d = d0 + 1 := ⟨d - 1, by omega⟩
  intro f
  induction f with
  | zero => intro _ hm; exact nomatch (show (none : Option ((Nat → Nat → Int32))) = some q from hm)
  | succ f ih =>
    intro I hm
    rw [mX12_term_8] at hm
    refine X_aload_n 0 dX12_term_8 rfl rfl rfl ?_
    refine X_getI fl_X12_199 (g_K123 G) rfl dX12_term_9 ?_
    refine X_if_ne (tgt := 100) dX12_term_12 (by decide) (fun c5 => ?_) (fun c5 => ?_)
    · replace hm := iq c5 hm
      replace hm := Option.some.inj hm
      subst hm
      exact X_vret dX12_term_100 rfl
    · replace hm := ip c5 hm
      refine X_aload_n 0 dX12_term_15 rfl rfl rfl ?_
      obtain ⟨q6, e7, hm⟩ := ob hm
      refine X_cV1 (ci := 11) (kX12_sign d (by omega) G e7) ml_X12_205 mi_X12_sign rfl cf_11 (g_K123 G) rfl rfl (Nat.le_refl _) ⟨Nat.le_refl _, Nat.le_refl _⟩ (Nat.le_of_ble_eq_true rfl) dX12_term_16 ?_
      refine X_bipush (v := (42 : Int32)) dX12_term_19 (by decide) ?_
      refine X_icmp_eq (tgt := 42) dX12_term_21 (by decide) (fun c8 => ?_) (fun c8 => ?_)
      · replace hm := ip c8 hm
        exact kX12_term_42 _ hd G ih hm
      · replace hm := iq c8 hm
        refine X_aload_n 0 dX12_term_24 rfl rfl rfl ?_
        obtain ⟨q21, e22, hm⟩ := ob hm
        refine X_cV1 (ci := 11) (kX12_sign d (by omega) G e22) ml_X12_205 mi_X12_sign rfl cf_11 (g_K123 G) rfl rfl (Nat.le_refl _) ⟨Nat.le_refl _, Nat.le_refl _⟩ (Nat.le_of_ble_eq_true rfl) dX12_term_25 ?_
        refine X_bipush (v := (47 : Int32)) dX12_term_28 (by decide) ?_
        refine X_icmp_eq (tgt := 42) dX12_term_30 (by decide) (fun c23 => ?_) (fun c23 => ?_)
        · replace hm := ip c23 hm
          exact kX12_term_42 _ hd G ih hm
        · replace hm := iq c23 hm
          refine X_aload_n 0 dX12_term_33 rfl rfl rfl ?_
          obtain ⟨q24, e25, hm⟩ := ob hm
          refine X_cV1 (ci := 11) (kX12_sign d (by omega) G e25) ml_X12_205 mi_X12_sign rfl cf_11 (g_K123 G) rfl rfl (Nat.le_refl _) ⟨Nat.le_refl _, Nat.le_refl _⟩ (Nat.le_of_ble_eq_true rfl) dX12_term_34 ?_
          refine X_bipush (v := (37 : Int32)) dX12_term_37 (by decide) ?_
          refine X_icmp_ne (tgt := 100) dX12_term_39 (by decide) (fun c26 => ?_) (fun c26 => ?_)
          · replace hm := iq c26 hm
            replace hm := Option.some.inj hm
            subst hm
            exact X_vret dX12_term_100 rfl
          · replace hm := ip c26 hm
            exact kX12_term_42 _ hd G ih hm
def mX12_term  (I : Nat → Nat → Int32) : Option ((Nat → Nat → Int32)) := (Option.bind (mX12_value I) (fun q1 => (Option.bind (mX12_blanks q1) (fun q3 => (mX12_term_8 xf q3)))))
set_option maxHeartbeats 400000 in
set_option maxRecDepth 100000 in
theorem kX12_term {E : xE} {B : Nat} {n : Nat} {K : Nat → Nat × Nat} {P : Nat → Nat → Nat} {I : Nat → Nat → Int32} {L : Nat → Nat → Int64}   {q : (Nat → Nat → Int32)} (d : Nat) (hd : 7 ≤ d) (G : GW K P)   (hm : mX12_term I = some q) : MX E B d 0 0 yX12_term cX12_term 2 (none : Option Jvm.ClassFile.FieldType) [.ref 123] (n, K, P, I, L) (none, (n, K, P, q, L)) := by
  refine MX_of (lv := [(0, .ref 123)]) (by decide +kernel) (Nat.le_of_ble_eq_true rfl) rfl ?_
  obtain ⟨d, rfl⟩ : ∃ d0, d = d0 + 1 := ⟨d - 1, by omega⟩
  unfold mX12_term at hm
  refine X_aload_n 0 dX12_term_0 rfl rfl rfl ?_
  obtain ⟨q1, e2, hm⟩ := ob hm
  refine X_cV0 (ci := 11) (kX12_value d (by omega) G e2) ml_X12_261 mi_X12_value rfl cf_11 (g_K123 G) rfl rfl (Nat.le_refl _) ⟨Nat.le_refl _, Nat.le_refl _⟩ (Nat.le_of_ble_eq_true rfl) dX12_term_1 ?_
  refine X_aload_n 0 dX12_term_4 rfl rfl rfl ?_
  obtain ⟨q3, e4, hm⟩ := ob hm
  refine X_cV0 (ci := 11) (kX12_blanks d (by omega) G e4) ml_X12_222 mi_X12_blanks rfl cf_11 (g_K123 G) rfl rfl (Nat.le_refl _) ⟨Nat.le_refl _, Nat.le_refl _⟩ (Nat.le_of_ble_eq_true rfl) dX12_term_5 ?_
  refine kX12_term_8 _ hd G xf _  hm
def mX12_sum_43 (b4 : (Nat → Nat → Int32) → Option ((Nat → Nat → Int32))) (I : Nat → Nat → Int32) (t0 : Int32) : Option ((Nat → Nat → Int32)) := (Option.bind (mX12_term (xu I 123 28 ((I 123 28) + (1 : Int32)))) (fun q10 => (Option.bind (mX12_entry q10 t0 (0 : Int32)) (fun q12 => (b4 q12)))))
set_option maxHeartbeats 400000 in
set_option maxRecDepth 100000 in
theorem kX12_sum_43 {E : xE} {B : Nat} {n : Nat} {K : Nat → Nat × Nat} {P : Nat → Nat → Nat} {I : Nat → Nat → Int32} {L : Nat → Nat → Int64}  {b4 : (Nat → Nat → Int32) → Option ((Nat → Nat → Int32))} {t0 : Int32} {q : (Nat → Nat → Int32)} (d : Nat) (hd : 8 ≤ d) (G : GW K P)  (hb4 : ∀ (I : Nat → Nat → Int32), b4 I = some q → X E B d 0 0 yX12_sum cX12_sum 2 (none : Option Jvm.ClassFile.FieldType) (none, (n, K, P, q, L)) 4 [(0, .ref 123)] [] 0 0 (n, K, P, I, L))  (hm : mX12_sum_43 b4 I t0 = some q) : X E B d 0 0 yX12_sum cX12_sum 2 (none : Option Jvm.ClassFile.FieldType) (none, (n, K, P, q, L)) 43 [(0, .ref 123)] [.int t0] 0 0 (n, K, P, I, L) := by
  obtain ⟨d, rfl⟩ : ∃ d0, d = d0 + 1 := ⟨d - 1, by omega⟩
  unfold mX12_sum_43 at hm
  refine X_istore_n (lv' := [(1, .int t0), (0, .ref 123)]) dX12_sum_43 rfl (by decide) rfl ?_
  refine X_aload_n 1 dX12_sum_44 rfl rfl rfl ?_
  refine X_dup dX12_sum_45 rfl ?_
  refine X_getI fl_X12_202 (g_K123 G) rfl dX12_sum_46 ?_
  refine X_iconst (v := (1 : Int32)) dX12_sum_49 (by decide) ?_
  refine X_iadd dX12_sum_50 ?_
  refine X_putI fl_X12_202 (g_K123 G) rfl rfl dX12_sum_51 ?_
  refine X_aload_n 1 dX12_sum_54 rfl rfl rfl ?_
  obtain ⟨q10, e11, hm⟩ := ob hm
  refine X_cV0 (ci := 11) (kX12_term d (by omega) G e11) ml_X12_263 mi_X12_term rfl cf_11 (g_K123 G) rfl rfl (Nat.le_refl _) ⟨Nat.le_refl _, Nat.le_refl _⟩ (Nat.le_of_ble_eq_true rfl) dX12_sum_55 ?_
  refine X_aload_n 1 dX12_sum_58 rfl rfl rfl ?_
  refine X_iload_n 0 dX12_sum_59 rfl rfl ?_
  refine X_iconst (v := (0 : Int32)) dX12_sum_60 (by decide) ?_
  obtain ⟨q12, e13, hm⟩ := ob hm
  refine X_cV0 (ci := 11) (kX12_entry d (by omega) G e13) ml_X12_254 mi_X12_entry rfl cf_11 (g_K123 G) rfl rfl (Nat.le_refl _) ⟨Nat.le_refl _, Nat.le_refl _⟩ (Nat.le_of_ble_eq_true rfl) dX12_sum_61 ?_
  refine X_goto (tgt := 4) dX12_sum_64 (by decide) ?_
  exact X_lv [1] rfl (hb4 _ hm)
def mX12_sum_29 (b4 : (Nat → Nat → Int32) → Option ((Nat → Nat → Int32))) (I : Nat → Nat → Int32) : Option ((Nat → Nat → Int32)) := (Option.bind (mX12_sign I) (fun q7 => (if q7 = (43 : Int32) then (mX12_sum_43 b4 I (2 : Int32)) else (mX12_sum_43 b4 I (3 : Int32)))))
set_option maxHeartbeats 400000 in
set_option maxRecDepth 100000 in
theorem kX12_sum_29 {E : xE} {B : Nat} {n : Nat} {K : Nat → Nat × Nat} {P : Nat → Nat → Nat} {I : Nat → Nat → Int32} {L : Nat → Nat → Int64}  {b4 : (Nat → Nat → Int32) → Option ((Nat → Nat → Int32))}  {q : (Nat → Nat → Int32)} (d : Nat) (hd : 8 ≤ d) (G : GW K P)  (hb4 : ∀ (I : Nat → Nat → Int32), b4 I = some q → X E B d 0 0 yX12_sum cX12_sum 2 (none : Option Jvm.ClassFile.FieldType) (none, (n, K, P, q, L)) 4 [(0, .ref 123)] [] 0 0 (n, K, P, I, L))  (hm : mX12_sum_29 b4 I = some q) : X E B d 0 0 yX12_sum cX12_sum 2 (none : Option Jvm.ClassFile.FieldType) (none, (n, K, P, q, L)) 29 [(0, .ref 123)] [] 0 0 (n, K, P, I, L) := by
  obtain ⟨d, rfl⟩ : ∃ d0, d = d0 + 1 := ⟨d - 1, by omega⟩
  unfold mX12_sum_29 at hm
  refine X_aload_n 0 dX12_sum_29 rfl rfl rfl ?_
  obtain ⟨q7, e8, hm⟩ := ob hm
  refine X_cV1 (ci := 11) (kX12_sign d (by omega) G e8) ml_X12_205 mi_X12_sign rfl cf_11 (g_K123 G) rfl rfl (Nat.le_refl _) ⟨Nat.le_refl _, Nat.le_refl _⟩ (Nat.le_of_ble_eq_true rfl) dX12_sum_30 ?_
  refine X_bipush (v := (43 : Int32)) dX12_sum_33 (by decide) ?_
  refine X_icmp_ne (tgt := 42) dX12_sum_35 (by decide) (fun c9 => ?_) (fun c9 => ?_)
  · replace hm := iq c9 hm
    refine X_iconst (v := (3 : Int32)) dX12_sum_42 (by decide) ?_
    exact kX12_sum_43 _ hd G hb4 hm
  · replace hm := ip c9 hm
    refine X_iconst (v := (2 : Int32)) dX12_sum_38 (by decide) ?_
    refine X_goto (tgt := 43) dX12_sum_39 (by decide) ?_
    exact kX12_sum_43 _ hd G hb4 hm
def mX12_sum_4   : Nat → (Nat → Nat → Int32) → Option ((Nat → Nat → Int32))
  | 0, _ => none
  | f + 1, I => (if (I 123 29) = 0 then (Option.bind (mX12_sign I) (fun q4 => (if q4 = (43 : Int32) then (mX12_sum_29 (fun (I : Nat → Nat → Int32) => mX12_sum_4  f I) I) else (Option.bind (mX12_sign I) (fun q14 => (if q14 = (45 : Int32) then (mX12_sum_29 (fun (I : Nat → Nat → Int32) => mX12_sum_4  f I) I) else (some I))))))) else (some I))
set_option maxHeartbeats 400000 in
set_option maxRecDepth 100000 in
theorem kX12_sum_4 {E : xE} {B : Nat} {n : Nat} {K : Nat → Nat × Nat} {P : Nat → Nat → Nat} {L : Nat → Nat → Int64}   {q : (Nat → Nat → Int32)} (d : Nat) (hd : 8 ≤ d) (G : GW K P)   : ∀ (f : Nat) (I : Nat → Nat → Int32), mX12_sum_4 f I = some q → X E B d 0 0 yX12_sum cX12_sum 2 (none : Option Jvm.ClassFile.FieldType) (none, (n, K, P, q, L)) 4 [(0, .ref 123)] [] 0 0 (n, K, P, I, L) := by
  obtain ⟨d, rfl⟩ : ∃ d0, d = d0 + 1 := ⟨d - 1, by omega⟩
  intro f
  induction f with
  | zero => intro _ hm; exact nomatch (show (none : Option ((Nat → Nat → Int32))) = some q from hm)
  | succ f ih =>
    intro I hm
    rw [mX12_sum_4] at hm
    refine X_aload_n 0 dX12_sum_4 rfl rfl rfl ?_
    refine X_getI fl_X12_199 (g_K123 G) rfl dX12_sum_5 ?_
    refine X_if_ne (tgt := 67) dX12_sum_8 (by decide) (fun c3 => ?_) (fun c3 => ?_)
    · replace hm := iq c3 hm
      replace hm := Option.some.inj hm
      subst hm
      exact X_vret dX12_sum_67 rfl
    · replace hm := ip c3 hm
      refine X_aload_n 0 dX12_sum_11 rfl rfl rfl ?_
      obtain ⟨q4, e5, hm⟩ := ob hm
      refine X_cV1 (ci := 11) (kX12_sign d (by omega) G e5) ml_X12_205 mi_X12_sign rfl cf_11 (g_K123 G) rfl rfl (Nat.le_refl _) ⟨Nat.le_refl _, Nat.le_refl _⟩ (Nat.le_of_ble_eq_true rfl) dX12_sum_12 ?_
      refine X_bipush (v := (43 : Int32)) dX12_sum_15 (by decide) ?_
      refine X_icmp_eq (tgt := 29) dX12_sum_17 (by decide) (fun c6 => ?_) (fun c6 => ?_)
      · replace hm := ip c6 hm
        exact kX12_sum_29 _ hd G ih hm
      · replace hm := iq c6 hm
        refine X_aload_n 0 dX12_sum_20 rfl rfl rfl ?_
        obtain ⟨q14, e15, hm⟩ := ob hm
        refine X_cV1 (ci := 11) (kX12_sign d (by omega) G e15) ml_X12_205 mi_X12_sign rfl cf_11 (g_K123 G) rfl rfl (Nat.le_refl _) ⟨Nat.le_refl _, Nat.le_refl _⟩ (Nat.le_of_ble_eq_true rfl) dX12_sum_21 ?_
        refine X_bipush (v := (45 : Int32)) dX12_sum_24 (by decide) ?_
        refine X_icmp_ne (tgt := 67) dX12_sum_26 (by decide) (fun c16 => ?_) (fun c16 => ?_)
        · replace hm := iq c16 hm
          replace hm := Option.some.inj hm
          subst hm
          exact X_vret dX12_sum_67 rfl
        · replace hm := ip c16 hm
          exact kX12_sum_29 _ hd G ih hm
def mX12_sum  (I : Nat → Nat → Int32) : Option ((Nat → Nat → Int32)) := (Option.bind (mX12_term I) (fun q1 => (mX12_sum_4 xf q1)))
set_option maxHeartbeats 400000 in
set_option maxRecDepth 100000 in
theorem kX12_sum {E : xE} {B : Nat} {n : Nat} {K : Nat → Nat × Nat} {P : Nat → Nat → Nat} {I : Nat → Nat → Int32} {L : Nat → Nat → Int64}   {q : (Nat → Nat → Int32)} (d : Nat) (hd : 8 ≤ d) (G : GW K P)   (hm : mX12_sum I = some q) : MX E B d 0 0 yX12_sum cX12_sum 2 (none : Option Jvm.ClassFile.FieldType) [.ref 123] (n, K, P, I, L) (none, (n, K, P, q, L)) := by
  refine MX_of (lv := [(0, .ref 123)]) (by decide +kernel) (Nat.le_of_ble_eq_true rfl) rfl ?_
  obtain ⟨d, rfl⟩ : ∃ d0, d = d0 + 1 := ⟨d - 1, by omega⟩
  unfold mX12_sum at hm
  refine X_aload_n 0 dX12_sum_0 rfl rfl rfl ?_
  obtain ⟨q1, e2, hm⟩ := ob hm
  refine X_cV0 (ci := 11) (kX12_term d (by omega) G e2) ml_X12_263 mi_X12_term rfl cf_11 (g_K123 G) rfl rfl (Nat.le_refl _) ⟨Nat.le_refl _, Nat.le_refl _⟩ (Nat.le_of_ble_eq_true rfl) dX12_sum_1 ?_
  refine kX12_sum_4 _ hd G xf _  hm
def mX12_compared_139  (I : Nat → Nat → Int32) (t0 : Int32) : Option ((Nat → Nat → Int32)) := (Option.bind (mX12_entry I t0 (0 : Int32)) (fun q15 => (some q15)))
set_option maxHeartbeats 400000 in
set_option maxRecDepth 100000 in
theorem kX12_compared_139 {E : xE} {B : Nat} {n : Nat} {K : Nat → Nat × Nat} {P : Nat → Nat → Nat} {I : Nat → Nat → Int32} {L : Nat → Nat → Int64}   {t0 : Int32} {q : (Nat → Nat → Int32)} (d : Nat) (hd : 9 ≤ d) (G : GW K P)    (hm : mX12_compared_139 I t0 = some q) : X E B d 0 0 yX12_compared cX12_compared 3 (none : Option Jvm.ClassFile.FieldType) (none, (n, K, P, q, L)) 139 [] [.int t0, .ref 123] 0 0 (n, K, P, I, L) := by
  obtain ⟨d, rfl⟩ : ∃ d0, d = d0 + 1 := ⟨d - 1, by omega⟩
  unfold mX12_compared_139 at hm
  refine X_iconst (v := (0 : Int32)) dX12_compared_139 (by decide) ?_
  obtain ⟨q15, e16, hm⟩ := ob hm
  refine X_cV0 (ci := 11) (kX12_entry d (by omega) G e16) ml_X12_254 mi_X12_entry rfl cf_11 (g_K123 G) rfl rfl (Nat.le_refl _) ⟨Nat.le_refl _, Nat.le_refl _⟩ (Nat.le_of_ble_eq_true rfl) dX12_compared_140 ?_
  replace hm := Option.some.inj hm
  subst hm
  exact X_vret dX12_compared_143 rfl
def mX12_compared_90  (I : Nat → Nat → Int32) (a1 : Int32) (a2 : Int32) (t0 : Int32) (t1 : Int32) : Option ((Nat → Nat → Int32)) := (Option.bind (mX12_sum (xu I 123 28 (t1 + t0))) (fun q10 => (if a1 = (61 : Int32) then (mX12_compared_139 q10 (6 : Int32)) else (if a1 = (60 : Int32) then (if a2 = 0 then (mX12_compared_139 q10 (4 : Int32)) else (mX12_compared_139 q10 (5 : Int32))) else (if a2 = 0 then (mX12_compared_139 q10 (8 : Int32)) else (mX12_compared_139 q10 (7 : Int32)))))))
set_option maxHeartbeats 400000 in
set_option maxRecDepth 100000 in
theorem kX12_compared_90 {E : xE} {B : Nat} {n : Nat} {K : Nat → Nat × Nat} {P : Nat → Nat → Nat} {I : Nat → Nat → Int32} {L : Nat → Nat → Int64}   {a1 : Int32} {a2 : Int32} {t0 : Int32} {t1 : Int32} {q : (Nat → Nat → Int32)} (d : Nat) (hd : 9 ≤ d) (G : GW K P)    (hm : mX12_compared_90 I a1 a2 t0 t1 = some q) : X E B d 0 0 yX12_compared cX12_compared 3 (none : Option Jvm.ClassFile.FieldType) (none, (n, K, P, q, L)) 90 [(0, .ref 123), (1, .int a1), (2, .int a2)] [.int t0, .int t1, .ref 123] 0 0 (n, K, P, I, L) := by
  obtain ⟨d, rfl⟩ : ∃ d0, d = d0 + 1 := ⟨d - 1, by omega⟩
  unfold mX12_compared_90 at hm
  refine X_iadd dX12_compared_90 ?_
  refine X_putI fl_X12_202 (g_K123 G) rfl rfl dX12_compared_91 ?_
  refine X_aload_n 0 dX12_compared_94 rfl rfl rfl ?_
  obtain ⟨q10, e11, hm⟩ := ob hm
  refine X_cV0 (ci := 11) (kX12_sum d (by omega) G e11) ml_X12_266 mi_X12_sum rfl cf_11 (g_K123 G) rfl rfl (Nat.le_refl _) ⟨Nat.le_refl _, Nat.le_refl _⟩ (Nat.le_of_ble_eq_true rfl) dX12_compared_95 ?_
  refine X_aload_n 0 dX12_compared_98 rfl rfl rfl ?_
  refine X_iload_n 1 dX12_compared_99 rfl rfl ?_
  refine X_bipush (v := (61 : Int32)) dX12_compared_100 (by decide) ?_
  refine X_icmp_ne (tgt := 110) dX12_compared_102 (by decide) (fun c12 => ?_) (fun c12 => ?_)
  · replace hm := iq c12 hm
    refine X_iload_n 1 dX12_compared_110 rfl rfl ?_
    refine X_bipush (v := (60 : Int32)) dX12_compared_111 (by decide) ?_
    refine X_icmp_ne (tgt := 128) dX12_compared_113 (by decide) (fun c13 => ?_) (fun c13 => ?_)
    · replace hm := iq c13 hm
      refine X_iload_n 2 dX12_compared_128 rfl rfl ?_
      refine X_if_eq (tgt := 137) dX12_compared_129 (by decide) (fun c14 => ?_) (fun c14 => ?_)
      · replace hm := ip c14 hm
        refine X_bipush (v := (8 : Int32)) dX12_compared_137 (by decide) ?_
        exact X_lv [] rfl (kX12_compared_139 _ hd G hm)
      · replace hm := iq c14 hm
        refine X_bipush (v := (7 : Int32)) dX12_compared_132 (by decide) ?_
        refine X_goto (tgt := 139) dX12_compared_134 (by decide) ?_
        exact X_lv [] rfl (kX12_compared_139 _ hd G hm)
    · replace hm := ip c13 hm
      refine X_iload_n 2 dX12_compared_116 rfl rfl ?_
      refine X_if_eq (tgt := 124) dX12_compared_117 (by decide) (fun c17 => ?_) (fun c17 => ?_)
      · replace hm := ip c17 hm
        refine X_iconst (v := (4 : Int32)) dX12_compared_124 (by decide) ?_
        refine X_goto (tgt := 139) dX12_compared_125 (by decide) ?_
        exact X_lv [] rfl (kX12_compared_139 _ hd G hm)
      · replace hm := iq c17 hm
        refine X_iconst (v := (5 : Int32)) dX12_compared_120 (by decide) ?_
        refine X_goto (tgt := 139) dX12_compared_121 (by decide) ?_
        exact X_lv [] rfl (kX12_compared_139 _ hd G hm)
  · replace hm := ip c12 hm
    refine X_bipush (v := (6 : Int32)) dX12_compared_105 (by decide) ?_
    refine X_goto (tgt := 139) dX12_compared_107 (by decide) ?_
    exact X_lv [] rfl (kX12_compared_139 _ hd G hm)
def mX12_compared_75  (I : Nat → Nat → Int32) (a1 : Int32) (t0 : Int32) : Option ((Nat → Nat → Int32)) := (if t0 = 0 then (mX12_compared_90 I a1 t0 (0 : Int32) (I 123 28)) else (mX12_compared_90 I a1 t0 (1 : Int32) (I 123 28)))
set_option maxHeartbeats 400000 in
set_option maxRecDepth 100000 in
theorem kX12_compared_75 {E : xE} {B : Nat} {n : Nat} {K : Nat → Nat × Nat} {P : Nat → Nat → Nat} {I : Nat → Nat → Int32} {L : Nat → Nat → Int64}   {a1 : Int32} {t0 : Int32} {q : (Nat → Nat → Int32)} (d : Nat) (hd : 9 ≤ d) (G : GW K P)    (hm : mX12_compared_75 I a1 t0 = some q) : X E B d 0 0 yX12_compared cX12_compared 3 (none : Option Jvm.ClassFile.FieldType) (none, (n, K, P, q, L)) 75 [(0, .ref 123), (1, .int a1)] [.int t0] 0 0 (n, K, P, I, L) := by
  obtain ⟨d, rfl⟩ : ∃ d0, d = d0 + 1 := ⟨d - 1, by omega⟩
  unfold mX12_compared_75 at hm
  refine X_istore_n (lv' := [(2, .int t0), (0, .ref 123), (1, .int a1)]) dX12_compared_75 rfl (by decide) rfl ?_
  refine X_aload_n 1 dX12_compared_76 rfl rfl rfl ?_
  refine X_dup dX12_compared_77 rfl ?_
  refine X_getI fl_X12_202 (g_K123 G) rfl dX12_compared_78 ?_
  refine X_iload_n 0 dX12_compared_81 rfl rfl ?_
  refine X_if_eq (tgt := 89) dX12_compared_82 (by decide) (fun c9 => ?_) (fun c9 => ?_)
  · replace hm := ip c9 hm
    refine X_iconst (v := (0 : Int32)) dX12_compared_89 (by decide) ?_
    exact X_lv [1, 2, 0] rfl (kX12_compared_90 _ hd G hm)
  · replace hm := iq c9 hm
    refine X_iconst (v := (1 : Int32)) dX12_compared_85 (by decide) ?_
    refine X_goto (tgt := 90) dX12_compared_86 (by decide) ?_
    exact X_lv [1, 2, 0] rfl (kX12_compared_90 _ hd G hm)
def mX12_compared_74  (I : Nat → Nat → Int32) (a1 : Int32) : Option ((Nat → Nat → Int32)) := (mX12_compared_75 I a1 (0 : Int32))
set_option maxHeartbeats 400000 in
set_option maxRecDepth 100000 in
theorem kX12_compared_74 {E : xE} {B : Nat} {n : Nat} {K : Nat → Nat × Nat} {P : Nat → Nat → Nat} {I : Nat → Nat → Int32} {L : Nat → Nat → Int64}   {a1 : Int32} {q : (Nat → Nat → Int32)} (d : Nat) (hd : 9 ≤ d) (G : GW K P)    (hm : mX12_compared_74 I a1 = some q) : X E B d 0 0 yX12_compared cX12_compared 3 (none : Option Jvm.ClassFile.FieldType) (none, (n, K, P, q, L)) 74 [(0, .ref 123), (1, .int a1)] [] 0 0 (n, K, P, I, L) := by
  obtain ⟨d, rfl⟩ : ∃ d0, d = d0 + 1 := ⟨d - 1, by omega⟩
  unfold mX12_compared_74 at hm
  refine X_iconst (v := (0 : Int32)) dX12_compared_74 (by decide) ?_
  exact kX12_compared_75 _ hd G hm
def mX12_compared_37  (I : Nat → Nat → Int32) (a1 : Int32) : Option ((Nat → Nat → Int32)) := (Option.bind (mX12_isCounted I (I 123 28)) (fun q6 => (if a1 = (61 : Int32) then (mX12_compared_74 (xu q6 123 28 ((q6 123 28) + (1 : Int32))) a1) else (Option.bind (mX12_sign (xu q6 123 28 ((q6 123 28) + (1 : Int32)))) (fun q18 => (if q18 = (61 : Int32) then (mX12_compared_75 (xu q6 123 28 ((q6 123 28) + (1 : Int32))) a1 (1 : Int32)) else (mX12_compared_74 (xu q6 123 28 ((q6 123 28) + (1 : Int32))) a1)))))))
set_option maxHeartbeats 400000 in
set_option maxRecDepth 100000 in
theorem kX12_compared_37 {E : xE} {B : Nat} {n : Nat} {K : Nat → Nat × Nat} {P : Nat → Nat → Nat} {I : Nat → Nat → Int32} {L : Nat → Nat → Int64}   {a1 : Int32} {q : (Nat → Nat → Int32)} (d : Nat) (hd : 9 ≤ d) (G : GW K P)    (hm : mX12_compared_37 I a1 = some q) : X E B d 0 0 yX12_compared cX12_compared 3 (none : Option Jvm.ClassFile.FieldType) (none, (n, K, P, q, L)) 37 [(0, .ref 123), (1, .int a1)] [] 0 0 (n, K, P, I, L) := by
  obtain ⟨d, rfl⟩ : ∃ d0, d = d0 + 1 := ⟨d - 1, by omega⟩
  unfold mX12_compared_37 at hm
  refine X_aload_n 0 dX12_compared_37 rfl rfl rfl ?_
  refine X_aload_n 0 dX12_compared_38 rfl rfl rfl ?_
  refine X_getI fl_X12_202 (g_K123 G) rfl dX12_compared_39 ?_
  obtain ⟨q6, e7, hm⟩ := ob hm
  refine X_cV0 (ci := 11) (kX12_isCounted d (by omega) G e7) ml_X12_251 mi_X12_isCounted rfl cf_11 (g_K123 G) rfl rfl (Nat.le_refl _) ⟨Nat.le_refl _, Nat.le_refl _⟩ (Nat.le_of_ble_eq_true rfl) dX12_compared_42 ?_
  refine X_aload_n 0 dX12_compared_45 rfl rfl rfl ?_
  refine X_dup dX12_compared_46 rfl ?_
  refine X_getI fl_X12_202 (g_K123 G) rfl dX12_compared_47 ?_
  refine X_iconst (v := (1 : Int32)) dX12_compared_50 (by decide) ?_
  refine X_iadd dX12_compared_51 ?_
  refine X_putI fl_X12_202 (g_K123 G) rfl rfl dX12_compared_52 ?_
  refine X_iload_n 1 dX12_compared_55 rfl rfl ?_
  refine X_bipush (v := (61 : Int32)) dX12_compared_56 (by decide) ?_
  refine X_icmp_eq (tgt := 74) dX12_compared_58 (by decide) (fun c8 => ?_) (fun c8 => ?_)
  · replace hm := ip c8 hm
    exact kX12_compared_74 _ hd G hm
  · replace hm := iq c8 hm
    refine X_aload_n 0 dX12_compared_61 rfl rfl rfl ?_
    obtain ⟨q18, e19, hm⟩ := ob hm
    refine X_cV1 (ci := 11) (kX12_sign d (by omega) G e19) ml_X12_205 mi_X12_sign rfl cf_11 (g_K123 G) rfl rfl (Nat.le_refl _) ⟨Nat.le_refl _, Nat.le_refl _⟩ (Nat.le_of_ble_eq_true rfl) dX12_compared_62 ?_
    refine X_bipush (v := (61 : Int32)) dX12_compared_65 (by decide) ?_
    refine X_icmp_ne (tgt := 74) dX12_compared_67 (by decide) (fun c20 => ?_) (fun c20 => ?_)
    · replace hm := iq c20 hm
      exact kX12_compared_74 _ hd G hm
    · replace hm := ip c20 hm
      refine X_iconst (v := (1 : Int32)) dX12_compared_70 (by decide) ?_
      refine X_goto (tgt := 75) dX12_compared_71 (by decide) ?_
      exact kX12_compared_75 _ hd G hm
def mX12_compared  (I : Nat → Nat → Int32) : Option ((Nat → Nat → Int32)) := (Option.bind (mX12_sum I) (fun q1 => (Option.bind (mX12_sign q1) (fun q3 => (if q3 = (60 : Int32) then (mX12_compared_37 q1 q3) else (if q3 = (61 : Int32) then (mX12_compared_37 q1 q3) else (if q3 = (62 : Int32) then (mX12_compared_37 q1 q3) else (Option.bind (mX12_fails q1 (0 : Int32) (q1 123 28)) (fun q23 => (some q23))))))))))
set_option maxHeartbeats 400000 in
set_option maxRecDepth 100000 in
theorem kX12_compared {E : xE} {B : Nat} {n : Nat} {K : Nat → Nat × Nat} {P : Nat → Nat → Nat} {I : Nat → Nat → Int32} {L : Nat → Nat → Int64}   {q : (Nat → Nat → Int32)} (d : Nat) (hd : 9 ≤ d) (G : GW K P)   (hm : mX12_compared I = some q) : MX E B d 0 0 yX12_compared cX12_compared 3 (none : Option Jvm.ClassFile.FieldType) [.ref 123] (n, K, P, I, L) (none, (n, K, P, q, L)) := by
  refine MX_of (lv := [(0, .ref 123)]) (by decide +kernel) (Nat.le_of_ble_eq_true rfl) rfl ?_
  obtain ⟨d, rfl⟩ : ∃ d0, d = d0 + 1 := ⟨d - 1, by omega⟩
  unfold mX12_compared at hm
  refine X_aload_n 0 dX12_compared_0 rfl rfl rfl ?_
  obtain ⟨q1, e2, hm⟩ := ob hm
  refine X_cV0 (ci := 11) (kX12_sum d (by omega) G e2) ml_X12_266 mi_X12_sum rfl cf_11 (g_K123 G) rfl rfl (Nat.le_refl _) ⟨Nat.le_refl _, Nat.le_refl _⟩ (Nat.le_of_ble_eq_true rfl) dX12_compared_1 ?_
  refine X_aload_n 0 dX12_compared_4 rfl rfl rfl ?_
  obtain ⟨q3, e4, hm⟩ := ob hm
  refine X_cV1 (ci := 11) (kX12_sign d (by omega) G e4) ml_X12_205 mi_X12_sign rfl cf_11 (g_K123 G) rfl rfl (Nat.le_refl _) ⟨Nat.le_refl _, Nat.le_refl _⟩ (Nat.le_of_ble_eq_true rfl) dX12_compared_5 ?_
  refine X_istore_n (lv' := [(1, .int q3), (0, .ref 123)]) dX12_compared_8 rfl (by decide) rfl ?_
  refine X_iload_n 0 dX12_compared_9 rfl rfl ?_
  refine X_bipush (v := (60 : Int32)) dX12_compared_10 (by decide) ?_
  refine X_icmp_eq (tgt := 37) dX12_compared_12 (by decide) (fun c5 => ?_) (fun c5 => ?_)
  · replace hm := ip c5 hm
    exact X_lv [1, 0] rfl (kX12_compared_37 _ hd G hm)
  · replace hm := iq c5 hm
    refine X_iload_n 0 dX12_compared_15 rfl rfl ?_
    refine X_bipush (v := (61 : Int32)) dX12_compared_16 (by decide) ?_
    refine X_icmp_eq (tgt := 37) dX12_compared_18 (by decide) (fun c21 => ?_) (fun c21 => ?_)
    · replace hm := ip c21 hm
      exact X_lv [1, 0] rfl (kX12_compared_37 _ hd G hm)
    · replace hm := iq c21 hm
      refine X_iload_n 0 dX12_compared_21 rfl rfl ?_
      refine X_bipush (v := (62 : Int32)) dX12_compared_22 (by decide) ?_
      refine X_icmp_eq (tgt := 37) dX12_compared_24 (by decide) (fun c22 => ?_) (fun c22 => ?_)
      · replace hm := ip c22 hm
        exact X_lv [1, 0] rfl (kX12_compared_37 _ hd G hm)
      · replace hm := iq c22 hm
        refine X_aload_n 1 dX12_compared_27 rfl rfl rfl ?_
        refine X_iconst (v := (0 : Int32)) dX12_compared_28 (by decide) ?_
        refine X_aload_n 1 dX12_compared_29 rfl rfl rfl ?_
        refine X_getI fl_X12_202 (g_K123 G) rfl dX12_compared_30 ?_
        obtain ⟨q23, e24, hm⟩ := ob hm
        refine X_cV0 (ci := 11) (kX12_fails d (by omega) G e24) ml_X12_238 mi_X12_fails rfl cf_11 (g_K123 G) rfl rfl (Nat.le_refl _) ⟨Nat.le_refl _, Nat.le_refl _⟩ (Nat.le_of_ble_eq_true rfl) dX12_compared_33 ?_
        replace hm := Option.some.inj hm
        subst hm
        exact X_vret dX12_compared_36 rfl
def mX12_top (I : Nat → Nat → Int32)  : Option (Int32) := (if (I 123 35) = 0 then (some (-1 : Int32)) else (if inb ((I 123 35) - (1 : Int32)) 402 = true then (some (I 157 (ix ((I 123 35) - (1 : Int32))))) else none))
set_option maxHeartbeats 400000 in
set_option maxRecDepth 100000 in
theorem kX12_top {E : xE} {B : Nat} {n : Nat} {K : Nat → Nat × Nat} {P : Nat → Nat → Nat} {I : Nat → Nat → Int32} {L : Nat → Nat → Int64}   {q : Int32} (d : Nat) (hd : 0 ≤ d) (G : GW K P)   (hm : mX12_top I = some q) : MX E B d 0 0 yX12_top cX12_top 1 (some .int) [.ref 123] (n, K, P, I, L) (some (.int q), (n, K, P, I, L)) := by
  refine MX_of (lv := [(0, .ref 123)]) (by decide +kernel) (Nat.le_of_ble_eq_true rfl) rfl ?_
  unfold mX12_top at hm
  refine X_aload_n 0 dX12_top_0 rfl rfl rfl ?_
  refine X_getI fl_X12_269 (g_K123 G) rfl dX12_top_1 ?_
  refine X_if_ne (tgt := 11) dX12_top_4 (by decide) (fun c1 => ?_) (fun c1 => ?_)
  · replace hm := iq c1 hm
    refine X_aload_n 0 dX12_top_11 rfl rfl rfl ?_
    refine X_getPe fl_X12_114 (g_K123 G) rfl (g_P123_44 G) dX12_top_12 ?_
    refine X_aload_n 0 dX12_top_15 rfl rfl rfl ?_
    refine X_getI fl_X12_269 (g_K123 G) rfl dX12_top_16 ?_
    refine X_iconst (v := (1 : Int32)) dX12_top_19 (by decide) ?_
    refine X_isub dX12_top_20 ?_
    obtain ⟨g2, hm⟩ := og hm
    refine X_ialdJ (g_K157 G) g2 rfl dX12_top_21 ?_
    replace hm := Option.some.inj hm
    subst hm
    exact X_iret dX12_top_22 rfl
  · replace hm := ip c1 hm
    refine X_iconst (v := (-1 : Int32)) dX12_top_7 (by decide) ?_
    refine X_goto (tgt := 22) dX12_top_8 (by decide) ?_
    replace hm := Option.some.inj hm
    subst hm
    exact X_iret dX12_top_22 rfl
def mX12_opens_40  (I : Nat → Nat → Int32) (a1 : Int32) : Option ((Nat → Nat → Int32)) := (if inb (I 123 35) 402 = true then (some (xu (xu I 157 (ix (I 123 35)) a1) 123 35 (((xu I 157 (ix (I 123 35)) a1) 123 35) + (1 : Int32)))) else none)
set_option maxHeartbeats 400000 in
set_option maxRecDepth 100000 in
theorem kX12_opens_40 {E : xE} {B : Nat} {n : Nat} {K : Nat → Nat × Nat} {P : Nat → Nat → Nat} {I : Nat → Nat → Int32} {L : Nat → Nat → Int64}   {a1 : Int32} {q : (Nat → Nat → Int32)} (d : Nat) (hd : 1 ≤ d) (G : GW K P)    (hm : mX12_opens_40 I a1 = some q) : X E B d 0 0 yX12_opens cX12_opens 2 (none : Option Jvm.ClassFile.FieldType) (none, (n, K, P, q, L)) 40 [(0, .ref 123), (1, .int a1)] [] 0 0 (n, K, P, I, L) := by
  obtain ⟨d, rfl⟩ : ∃ d0, d = d0 + 1 := ⟨d - 1, by omega⟩
  unfold mX12_opens_40 at hm
  refine X_aload_n 0 dX12_opens_40 rfl rfl rfl ?_
  refine X_getPe fl_X12_114 (g_K123 G) rfl (g_P123_44 G) dX12_opens_41 ?_
  refine X_aload_n 0 dX12_opens_44 rfl rfl rfl ?_
  refine X_getI fl_X12_269 (g_K123 G) rfl dX12_opens_45 ?_
  refine X_iload_n 1 dX12_opens_48 rfl rfl ?_
  obtain ⟨g3, hm⟩ := og hm
  refine X_iastJ (g_K157 G) g3 rfl dX12_opens_49 ?_
  refine X_aload_n 0 dX12_opens_50 rfl rfl rfl ?_
  refine X_dup dX12_opens_51 rfl ?_
  refine X_getI fl_X12_269 (g_K123 G) rfl dX12_opens_52 ?_
  refine X_iconst (v := (1 : Int32)) dX12_opens_55 (by decide) ?_
  refine X_iadd dX12_opens_56 ?_
  refine X_putI fl_X12_269 (g_K123 G) rfl rfl dX12_opens_57 ?_
  replace hm := Option.some.inj hm
  subst hm
  exact X_vret dX12_opens_60 rfl
def mX12_opens_30  (I : Nat → Nat → Int32) (a1 : Int32) : Option ((Nat → Nat → Int32)) := (mX12_opens_40 (xu I 123 33 ((I 123 33) + (1 : Int32))) a1)
set_option maxHeartbeats 400000 in
set_option maxRecDepth 100000 in
theorem kX12_opens_30 {E : xE} {B : Nat} {n : Nat} {K : Nat → Nat × Nat} {P : Nat → Nat → Nat} {I : Nat → Nat → Int32} {L : Nat → Nat → Int64}   {a1 : Int32} {q : (Nat → Nat → Int32)} (d : Nat) (hd : 1 ≤ d) (G : GW K P)    (hm : mX12_opens_30 I a1 = some q) : X E B d 0 0 yX12_opens cX12_opens 2 (none : Option Jvm.ClassFile.FieldType) (none, (n, K, P, q, L)) 30 [(0, .ref 123), (1, .int a1)] [] 0 0 (n, K, P, I, L) := by
  obtain ⟨d, rfl⟩ : ∃ d0, d = d0 + 1 := ⟨d - 1, by omega⟩
  unfold mX12_opens_30 at hm
  refine X_aload_n 0 dX12_opens_30 rfl rfl rfl ?_
  refine X_dup dX12_opens_31 rfl ?_
  refine X_getI fl_X12_272 (g_K123 G) rfl dX12_opens_32 ?_
  refine X_iconst (v := (1 : Int32)) dX12_opens_35 (by decide) ?_
  refine X_iadd dX12_opens_36 ?_
  refine X_putI fl_X12_272 (g_K123 G) rfl rfl dX12_opens_37 ?_
  exact kX12_opens_40 _ hd G hm
def mX12_opens_12  (I : Nat → Nat → Int32) (a1 : Int32) : Option ((Nat → Nat → Int32)) := (if (I 123 33) = (10 : Int32) then (Option.bind (mX12_fails I (2 : Int32) (I 123 28)) (fun q4 => (mX12_opens_30 q4 a1))) else (mX12_opens_30 I a1))
set_option maxHeartbeats 400000 in
set_option maxRecDepth 100000 in
theorem kX12_opens_12 {E : xE} {B : Nat} {n : Nat} {K : Nat → Nat × Nat} {P : Nat → Nat → Nat} {I : Nat → Nat → Int32} {L : Nat → Nat → Int64}   {a1 : Int32} {q : (Nat → Nat → Int32)} (d : Nat) (hd : 1 ≤ d) (G : GW K P)    (hm : mX12_opens_12 I a1 = some q) : X E B d 0 0 yX12_opens cX12_opens 2 (none : Option Jvm.ClassFile.FieldType) (none, (n, K, P, q, L)) 12 [(0, .ref 123), (1, .int a1)] [] 0 0 (n, K, P, I, L) := by
  obtain ⟨d, rfl⟩ : ∃ d0, d = d0 + 1 := ⟨d - 1, by omega⟩
  unfold mX12_opens_12 at hm
  refine X_aload_n 0 dX12_opens_12 rfl rfl rfl ?_
  refine X_getI fl_X12_272 (g_K123 G) rfl dX12_opens_13 ?_
  refine X_bipush (v := (10 : Int32)) dX12_opens_16 (by decide) ?_
  refine X_icmp_ne (tgt := 30) dX12_opens_18 (by decide) (fun c2 => ?_) (fun c2 => ?_)
  · replace hm := iq c2 hm
    exact kX12_opens_30 _ hd G hm
  · replace hm := ip c2 hm
    refine X_aload_n 0 dX12_opens_21 rfl rfl rfl ?_
    refine X_iconst (v := (2 : Int32)) dX12_opens_22 (by decide) ?_
    refine X_aload_n 0 dX12_opens_23 rfl rfl rfl ?_
    refine X_getI fl_X12_202 (g_K123 G) rfl dX12_opens_24 ?_
    obtain ⟨q4, e5, hm⟩ := ob hm
    refine X_cV0 (ci := 11) (kX12_fails d (by omega) G e5) ml_X12_238 mi_X12_fails rfl cf_11 (g_K123 G) rfl rfl (Nat.le_refl _) ⟨Nat.le_refl _, Nat.le_refl _⟩ (Nat.le_of_ble_eq_true rfl) dX12_opens_27 ?_
    exact kX12_opens_30 _ hd G hm
def mX12_opens  (I : Nat → Nat → Int32) (a1 : Int32) : Option ((Nat → Nat → Int32)) := (if a1 = (9 : Int32) then (mX12_opens_12 I a1) else (if a1 = (12 : Int32) then (mX12_opens_12 I a1) else (mX12_opens_40 I a1)))
set_option maxHeartbeats 400000 in
set_option maxRecDepth 100000 in
theorem kX12_opens {E : xE} {B : Nat} {n : Nat} {K : Nat → Nat × Nat} {P : Nat → Nat → Nat} {I : Nat → Nat → Int32} {L : Nat → Nat → Int64}  {a1 : Int32} {q : (Nat → Nat → Int32)} (d : Nat) (hd : 1 ≤ d) (G : GW K P)   (hm : mX12_opens I a1 = some q) : MX E B d 0 0 yX12_opens cX12_opens 2 (none : Option Jvm.ClassFile.FieldType) [.ref 123, .int a1] (n, K, P, I, L) (none, (n, K, P, q, L)) := by
  refine MX_of (lv := [(0, .ref 123), (1, .int a1)]) (by decide +kernel) (Nat.le_of_ble_eq_true rfl) rfl ?_
  obtain ⟨d, rfl⟩ : ∃ d0, d = d0 + 1 := ⟨d - 1, by omega⟩
  unfold mX12_opens at hm
  refine X_iload_n 1 dX12_opens_0 rfl rfl ?_
  refine X_bipush (v := (9 : Int32)) dX12_opens_1 (by decide) ?_
  refine X_icmp_eq (tgt := 12) dX12_opens_3 (by decide) (fun c1 => ?_) (fun c1 => ?_)
  · replace hm := ip c1 hm
    exact kX12_opens_12 _ hd G hm
  · replace hm := iq c1 hm
    refine X_iload_n 1 dX12_opens_6 rfl rfl ?_
    refine X_bipush (v := (12 : Int32)) dX12_opens_7 (by decide) ?_
    refine X_icmp_ne (tgt := 40) dX12_opens_9 (by decide) (fun c6 => ?_) (fun c6 => ?_)
    · replace hm := iq c6 hm
      exact kX12_opens_40 _ hd G hm
    · replace hm := ip c6 hm
      exact kX12_opens_12 _ hd G hm
def mX12_answers_0   : Nat → (Nat → Nat → Int32) → Int32 → Option ((Nat → Nat → Int32))
  | 0, _, _ => none
  | f + 1, I, a1 => (Option.bind (mX12_top I) (fun q1 => (if q1 = a1 then (if (I 123 29) = 0 then (Option.bind (mX12_entry I a1 (0 : Int32)) (fun q5 => (if a1 = (9 : Int32) then (mX12_answers_0 f (xu (xu q5 123 35 ((q5 123 35) - (1 : Int32))) 123 33 (((xu q5 123 35 ((q5 123 35) - (1 : Int32))) 123 33) - (1 : Int32))) a1) else (mX12_answers_0 f (xu (xu q5 123 35 ((q5 123 35) - (1 : Int32))) 123 33 (((xu q5 123 35 ((q5 123 35) - (1 : Int32))) 123 33) - (0 : Int32))) a1)))) else (some I)) else (some I))))
set_option maxHeartbeats 400000 in
set_option maxRecDepth 100000 in
theorem kX12_answers_0 {E : xE} {B : Nat} {n : Nat} {K : Nat → Nat × Nat} {P : Nat → Nat → Nat} {L : Nat → Nat → Int64}   {q : (Nat → Nat → Int32)} (d : Nat) (hd : 1 ≤ d) (G : GW K P)   : ∀ (f : Nat) (I : Nat → Nat → Int32) (a1 : Int32), mX12_answers_0 f I a1 = some q → X E B d 0 0 yX12_answers cX12_answers 2 (none : Option Jvm.ClassFile.FieldType) (none, (n, K, P, q, L)) 0 [(0, .ref 123), (1, .int a1)] [] 0 0 (n, K, P, I, L) := by
  obtain ⟨d, rfl⟩ : ∃ d0, d = d0 + 1 := ⟨d - 1, by omega⟩
  intro f
  induction f with
  | zero => intro _ _ hm; exact nomatch (show (none : Option ((Nat → Nat → Int32))) = some q from hm)
  | succ f ih =>
    intro I a1 hm
    rw [mX12_answers_0] at hm
    refine X_aload_n 0 dX12_answers_0 rfl rfl rfl ?_
    obtain ⟨q1, e2, hm⟩ := ob hm
    refine X_cV1 (ci := 11) (kX12_top d (by omega) G e2) ml_X12_275 mi_X12_top rfl cf_11 (g_K123 G) rfl rfl (Nat.le_refl _) ⟨Nat.le_refl _, Nat.le_refl _⟩ (Nat.le_of_ble_eq_true rfl) dX12_answers_1 ?_
    refine X_iload_n 1 dX12_answers_4 rfl rfl ?_
    refine X_icmp_ne (tgt := 54) dX12_answers_5 (by decide) (fun c3 => ?_) (fun c3 => ?_)
    · replace hm := iq c3 hm
      replace hm := Option.some.inj hm
      subst hm
      exact X_vret dX12_answers_54 rfl
    · replace hm := ip c3 hm
      refine X_aload_n 0 dX12_answers_8 rfl rfl rfl ?_
      refine X_getI fl_X12_199 (g_K123 G) rfl dX12_answers_9 ?_
      refine X_if_ne (tgt := 54) dX12_answers_12 (by decide) (fun c4 => ?_) (fun c4 => ?_)
      · replace hm := iq c4 hm
        replace hm := Option.some.inj hm
        subst hm
        exact X_vret dX12_answers_54 rfl
      · replace hm := ip c4 hm
        refine X_aload_n 0 dX12_answers_15 rfl rfl rfl ?_
        refine X_iload_n 1 dX12_answers_16 rfl rfl ?_
        refine X_iconst (v := (0 : Int32)) dX12_answers_17 (by decide) ?_
        obtain ⟨q5, e6, hm⟩ := ob hm
        refine X_cV0 (ci := 11) (kX12_entry d (by omega) G e6) ml_X12_254 mi_X12_entry rfl cf_11 (g_K123 G) rfl rfl (Nat.le_refl _) ⟨Nat.le_refl _, Nat.le_refl _⟩ (Nat.le_of_ble_eq_true rfl) dX12_answers_18 ?_
        refine X_aload_n 0 dX12_answers_21 rfl rfl rfl ?_
        refine X_dup dX12_answers_22 rfl ?_
        refine X_getI fl_X12_269 (g_K123 G) rfl dX12_answers_23 ?_
        refine X_iconst (v := (1 : Int32)) dX12_answers_26 (by decide) ?_
        refine X_isub dX12_answers_27 ?_
        refine X_putI fl_X12_269 (g_K123 G) rfl rfl dX12_answers_28 ?_
        refine X_aload_n 0 dX12_answers_31 rfl rfl rfl ?_
        refine X_dup dX12_answers_32 rfl ?_
        refine X_getI fl_X12_272 (g_K123 G) rfl dX12_answers_33 ?_
        refine X_iload_n 1 dX12_answers_36 rfl rfl ?_
        refine X_bipush (v := (9 : Int32)) dX12_answers_37 (by decide) ?_
        refine X_icmp_ne (tgt := 46) dX12_answers_39 (by decide) (fun c7 => ?_) (fun c7 => ?_)
        · replace hm := iq c7 hm
          refine X_iconst (v := (0 : Int32)) dX12_answers_46 (by decide) ?_
          refine X_isub dX12_answers_47 ?_
          refine X_putI fl_X12_272 (g_K123 G) rfl rfl dX12_answers_48 ?_
          refine X_goto (tgt := 0) dX12_answers_51 (by decide) ?_
          exact ih _ _ hm
        · replace hm := ip c7 hm
          refine X_iconst (v := (1 : Int32)) dX12_answers_42 (by decide) ?_
          refine X_goto (tgt := 47) dX12_answers_43 (by decide) ?_
          refine X_isub dX12_answers_47 ?_
          refine X_putI fl_X12_272 (g_K123 G) rfl rfl dX12_answers_48 ?_
          refine X_goto (tgt := 0) dX12_answers_51 (by decide) ?_
          exact ih _ _ hm
def mX12_answers  (I : Nat → Nat → Int32) (a1 : Int32) : Option ((Nat → Nat → Int32)) := (mX12_answers_0 xf I a1)
set_option maxHeartbeats 400000 in
set_option maxRecDepth 100000 in
theorem kX12_answers {E : xE} {B : Nat} {n : Nat} {K : Nat → Nat × Nat} {P : Nat → Nat → Nat} {I : Nat → Nat → Int32} {L : Nat → Nat → Int64}  {a1 : Int32} {q : (Nat → Nat → Int32)} (d : Nat) (hd : 1 ≤ d) (G : GW K P)   (hm : mX12_answers I a1 = some q) : MX E B d 0 0 yX12_answers cX12_answers 2 (none : Option Jvm.ClassFile.FieldType) [.ref 123, .int a1] (n, K, P, I, L) (none, (n, K, P, q, L)) := by
  refine MX_of (lv := [(0, .ref 123), (1, .int a1)]) (by decide +kernel) (Nat.le_of_ble_eq_true rfl) rfl ?_
  obtain ⟨d, rfl⟩ : ∃ d0, d = d0 + 1 := ⟨d - 1, by omega⟩
  unfold mX12_answers at hm
  refine kX12_answers_0 _ hd G xf _ _  hm
def mX12_fact  (I : Nat → Nat → Int32) : Option (Int32 × (Nat → Nat → Int32)) := (Option.bind (mX12_blanks I) (fun q1 => (Option.bind (mX12_stood q1 21) (fun q3 => (if q3 = 0 then (Option.bind (mX12_sign q1) (fun q6 => (if q6 = (91 : Int32) then (Option.bind (mX12_opens q1 (12 : Int32)) (fun q11 => (some ((0 : Int32), (xu q11 123 28 ((q11 123 28) + (1 : Int32))))))) else (Option.bind (mX12_compared q1) (fun q9 => (some ((1 : Int32), q9))))))) else (Option.bind (mX12_opens q1 (9 : Int32)) (fun q13 => (some ((0 : Int32), (xu q13 123 28 ((q13 123 28) + (3 : Int32))))))))))))
set_option maxHeartbeats 400000 in
set_option maxRecDepth 100000 in
theorem kX12_fact {E : xE} {B : Nat} {n : Nat} {K : Nat → Nat × Nat} {P : Nat → Nat → Nat} {I : Nat → Nat → Int32} {L : Nat → Nat → Int64}   {q : Int32 × (Nat → Nat → Int32)} (d : Nat) (hd : 10 ≤ d) (G : GW K P)   (hm : mX12_fact I = some q) : MX E B d 0 0 yX12_fact cX12_fact 1 (some .boolean) [.ref 123] (n, K, P, I, L) (some (.int q.1), (n, K, P, q.2, L)) := by
  refine MX_of (lv := [(0, .ref 123)]) (by decide +kernel) (Nat.le_of_ble_eq_true rfl) rfl ?_
  obtain ⟨d, rfl⟩ : ∃ d0, d = d0 + 1 := ⟨d - 1, by omega⟩
  unfold mX12_fact at hm
  refine X_aload_n 0 dX12_fact_0 rfl rfl rfl ?_
  obtain ⟨q1, e2, hm⟩ := ob hm
  refine X_cV0 (ci := 11) (kX12_blanks d (by omega) G e2) ml_X12_222 mi_X12_blanks rfl cf_11 (g_K123 G) rfl rfl (Nat.le_refl _) ⟨Nat.le_refl _, Nat.le_refl _⟩ (Nat.le_of_ble_eq_true rfl) dX12_fact_1 ?_
  refine X_aload_n 0 dX12_fact_4 rfl rfl rfl ?_
  refine X_ldcwS (i := 21) rfl (by decide) dX12_fact_5 ?_
  obtain ⟨q3, e4, hm⟩ := ob hm
  refine X_cV1 (ci := 11) (kX12_stood d (by omega) G (by decide) e4) ml_X12_225 mi_X12_stood rfl cf_11 (g_K123 G) rfl rfl (Nat.le_refl _) ⟨Nat.le_refl _, Nat.le_refl _⟩ (Nat.le_of_ble_eq_true rfl) dX12_fact_8 ?_
  refine X_if_eq (tgt := 32) dX12_fact_11 (by decide) (fun c5 => ?_) (fun c5 => ?_)
  · replace hm := ip c5 hm
    refine X_aload_n 0 dX12_fact_32 rfl rfl rfl ?_
    obtain ⟨q6, e7, hm⟩ := ob hm
    refine X_cV1 (ci := 11) (kX12_sign d (by omega) G e7) ml_X12_205 mi_X12_sign rfl cf_11 (g_K123 G) rfl rfl (Nat.le_refl _) ⟨Nat.le_refl _, Nat.le_refl _⟩ (Nat.le_of_ble_eq_true rfl) dX12_fact_33 ?_
    refine X_bipush (v := (91 : Int32)) dX12_fact_36 (by decide) ?_
    refine X_icmp_ne (tgt := 59) dX12_fact_38 (by decide) (fun c8 => ?_) (fun c8 => ?_)
    · replace hm := iq c8 hm
      refine X_aload_n 0 dX12_fact_59 rfl rfl rfl ?_
      obtain ⟨q9, e10, hm⟩ := ob hm
      refine X_cV0 (ci := 11) (kX12_compared d (by omega) G e10) ml_X12_282 mi_X12_compared rfl cf_11 (g_K123 G) rfl rfl (Nat.le_refl _) ⟨Nat.le_refl _, Nat.le_refl _⟩ (Nat.le_of_ble_eq_true rfl) dX12_fact_60 ?_
      refine X_iconst (v := (1 : Int32)) dX12_fact_63 (by decide) ?_
      replace hm := Option.some.inj hm
      subst hm
      exact X_zret (v := (1 : Int32)) dX12_fact_64 rfl (x_nz (Or.inr rfl))
    · replace hm := ip c8 hm
      refine X_aload_n 0 dX12_fact_41 rfl rfl rfl ?_
      refine X_bipush (v := (12 : Int32)) dX12_fact_42 (by decide) ?_
      obtain ⟨q11, e12, hm⟩ := ob hm
      refine X_cV0 (ci := 11) (kX12_opens d (by omega) G e12) ml_X12_279 mi_X12_opens rfl cf_11 (g_K123 G) rfl rfl (Nat.le_refl _) ⟨Nat.le_refl _, Nat.le_refl _⟩ (Nat.le_of_ble_eq_true rfl) dX12_fact_44 ?_
      refine X_aload_n 0 dX12_fact_47 rfl rfl rfl ?_
      refine X_dup dX12_fact_48 rfl ?_
      refine X_getI fl_X12_202 (g_K123 G) rfl dX12_fact_49 ?_
      refine X_iconst (v := (1 : Int32)) dX12_fact_52 (by decide) ?_
      refine X_iadd dX12_fact_53 ?_
      refine X_putI fl_X12_202 (g_K123 G) rfl rfl dX12_fact_54 ?_
      refine X_iconst (v := (0 : Int32)) dX12_fact_57 (by decide) ?_
      replace hm := Option.some.inj hm
      subst hm
      exact X_zret (v := (0 : Int32)) dX12_fact_58 rfl (x_nz (Or.inl rfl))
  · replace hm := iq c5 hm
    refine X_aload_n 0 dX12_fact_14 rfl rfl rfl ?_
    refine X_bipush (v := (9 : Int32)) dX12_fact_15 (by decide) ?_
    obtain ⟨q13, e14, hm⟩ := ob hm
    refine X_cV0 (ci := 11) (kX12_opens d (by omega) G e14) ml_X12_279 mi_X12_opens rfl cf_11 (g_K123 G) rfl rfl (Nat.le_refl _) ⟨Nat.le_refl _, Nat.le_refl _⟩ (Nat.le_of_ble_eq_true rfl) dX12_fact_17 ?_
    refine X_aload_n 0 dX12_fact_20 rfl rfl rfl ?_
    refine X_dup dX12_fact_21 rfl ?_
    refine X_getI fl_X12_202 (g_K123 G) rfl dX12_fact_22 ?_
    refine X_iconst (v := (3 : Int32)) dX12_fact_25 (by decide) ?_
    refine X_iadd dX12_fact_26 ?_
    refine X_putI fl_X12_202 (g_K123 G) rfl rfl dX12_fact_27 ?_
    refine X_iconst (v := (0 : Int32)) dX12_fact_30 (by decide) ?_
    replace hm := Option.some.inj hm
    subst hm
    exact X_zret (v := (0 : Int32)) dX12_fact_31 rfl (x_nz (Or.inl rfl))
def mX12_test_105 (b9 : (Nat → Nat → Int32) → Int32 → Int32 → Option ((Nat → Nat → Int32))) (I : Nat → Nat → Int32) (a2 : Int32) (a3 : Int32) (t0 : Int32) : Option ((Nat → Nat → Int32)) := (Option.bind (mX12_opens I t0) (fun q17 => (if a3 = 0 then (b9 (xu q17 123 28 ((q17 123 28) + (2 : Int32))) (1 : Int32) a2) else (b9 (xu q17 123 28 ((q17 123 28) + (3 : Int32))) (1 : Int32) a2))))
set_option maxHeartbeats 400000 in
set_option maxRecDepth 100000 in
theorem kX12_test_105 {E : xE} {B : Nat} {n : Nat} {K : Nat → Nat × Nat} {P : Nat → Nat → Nat} {I : Nat → Nat → Int32} {L : Nat → Nat → Int64}  {b9 : (Nat → Nat → Int32) → Int32 → Int32 → Option ((Nat → Nat → Int32))} {a2 : Int32} {a3 : Int32} {t0 : Int32} {q : (Nat → Nat → Int32)} (d : Nat) (hd : 11 ≤ d) (G : GW K P)  (hb9 : ∀ (I : Nat → Nat → Int32) (a1 : Int32) (a2 : Int32), b9 I a1 a2 = some q → X E B d 0 0 yX12_test cX12_test 5 (none : Option Jvm.ClassFile.FieldType) (none, (n, K, P, q, L)) 9 [(0, .ref 123), (1, .int a1), (2, .int a2)] [] 0 0 (n, K, P, I, L))  (hm : mX12_test_105 b9 I a2 a3 t0 = some q) : X E B d 0 0 yX12_test cX12_test 5 (none : Option Jvm.ClassFile.FieldType) (none, (n, K, P, q, L)) 105 [(0, .ref 123), (2, .int a2), (3, .int a3)] [.int t0, .ref 123] 0 0 (n, K, P, I, L) := by
  obtain ⟨d, rfl⟩ : ∃ d0, d = d0 + 1 := ⟨d - 1, by omega⟩
  unfold mX12_test_105 at hm
  obtain ⟨q17, e18, hm⟩ := ob hm
  refine X_cV0 (ci := 11) (kX12_opens d (by omega) G e18) ml_X12_279 mi_X12_opens rfl cf_11 (g_K123 G) rfl rfl (Nat.le_refl _) ⟨Nat.le_refl _, Nat.le_refl _⟩ (Nat.le_of_ble_eq_true rfl) dX12_test_105 ?_
  refine X_aload_n 0 dX12_test_108 rfl rfl rfl ?_
  refine X_dup dX12_test_109 rfl ?_
  refine X_getI fl_X12_202 (g_K123 G) rfl dX12_test_110 ?_
  refine X_iload_n 2 dX12_test_113 rfl rfl ?_
  refine X_if_eq (tgt := 121) dX12_test_114 (by decide) (fun c19 => ?_) (fun c19 => ?_)
  · replace hm := ip c19 hm
    refine X_iconst (v := (2 : Int32)) dX12_test_121 (by decide) ?_
    refine X_iadd dX12_test_122 ?_
    refine X_putI fl_X12_202 (g_K123 G) rfl rfl dX12_test_123 ?_
    refine X_iconst (v := (1 : Int32)) dX12_test_126 (by decide) ?_
    refine X_istore_n (lv' := [(1, .int (1 : Int32)), (0, .ref 123), (2, .int a2), (3, .int a3)]) dX12_test_127 rfl (by decide) rfl ?_
    refine X_goto (tgt := 199) dX12_test_128 (by decide) ?_
    refine X_goto (tgt := 9) dX12_test_199 (by decide) ?_
    exact X_lv [1, 0, 2] rfl (hb9 _ _ _ hm)
  · replace hm := iq c19 hm
    refine X_iconst (v := (3 : Int32)) dX12_test_117 (by decide) ?_
    refine X_goto (tgt := 122) dX12_test_118 (by decide) ?_
    refine X_iadd dX12_test_122 ?_
    refine X_putI fl_X12_202 (g_K123 G) rfl rfl dX12_test_123 ?_
    refine X_iconst (v := (1 : Int32)) dX12_test_126 (by decide) ?_
    refine X_istore_n (lv' := [(1, .int (1 : Int32)), (0, .ref 123), (2, .int a2), (3, .int a3)]) dX12_test_127 rfl (by decide) rfl ?_
    refine X_goto (tgt := 199) dX12_test_128 (by decide) ?_
    refine X_goto (tgt := 9) dX12_test_199 (by decide) ?_
    exact X_lv [1, 0, 2] rfl (hb9 _ _ _ hm)
def mX12_test_93 (b9 : (Nat → Nat → Int32) → Int32 → Int32 → Option ((Nat → Nat → Int32))) (I : Nat → Nat → Int32) (a2 : Int32) (a3 : Int32) : Option ((Nat → Nat → Int32)) := (if a3 = 0 then (mX12_test_105 b9 I a2 a3 (11 : Int32)) else (mX12_test_105 b9 I a2 a3 (10 : Int32)))
set_option maxHeartbeats 400000 in
set_option maxRecDepth 100000 in
theorem kX12_test_93 {E : xE} {B : Nat} {n : Nat} {K : Nat → Nat × Nat} {P : Nat → Nat → Nat} {I : Nat → Nat → Int32} {L : Nat → Nat → Int64}  {b9 : (Nat → Nat → Int32) → Int32 → Int32 → Option ((Nat → Nat → Int32))} {a2 : Int32} {a3 : Int32} {q : (Nat → Nat → Int32)} (d : Nat) (hd : 11 ≤ d) (G : GW K P)  (hb9 : ∀ (I : Nat → Nat → Int32) (a1 : Int32) (a2 : Int32), b9 I a1 a2 = some q → X E B d 0 0 yX12_test cX12_test 5 (none : Option Jvm.ClassFile.FieldType) (none, (n, K, P, q, L)) 9 [(0, .ref 123), (1, .int a1), (2, .int a2)] [] 0 0 (n, K, P, I, L))  (hm : mX12_test_93 b9 I a2 a3 = some q) : X E B d 0 0 yX12_test cX12_test 5 (none : Option Jvm.ClassFile.FieldType) (none, (n, K, P, q, L)) 93 [(0, .ref 123), (2, .int a2), (3, .int a3)] [] 0 0 (n, K, P, I, L) := by
  obtain ⟨d, rfl⟩ : ∃ d0, d = d0 + 1 := ⟨d - 1, by omega⟩
  unfold mX12_test_93 at hm
  refine X_aload_n 0 dX12_test_93 rfl rfl rfl ?_
  refine X_iload_n 2 dX12_test_94 rfl rfl ?_
  refine X_if_eq (tgt := 103) dX12_test_95 (by decide) (fun c16 => ?_) (fun c16 => ?_)
  · replace hm := ip c16 hm
    refine X_bipush (v := (11 : Int32)) dX12_test_103 (by decide) ?_
    exact kX12_test_105 _ hd G hb9 hm
  · replace hm := iq c16 hm
    refine X_bipush (v := (10 : Int32)) dX12_test_98 (by decide) ?_
    refine X_goto (tgt := 105) dX12_test_100 (by decide) ?_
    exact kX12_test_105 _ hd G hb9 hm
def mX12_test_82 (b9 : (Nat → Nat → Int32) → Int32 → Int32 → Option ((Nat → Nat → Int32))) (I : Nat → Nat → Int32) (a2 : Int32) (a3 : Int32) (a4 : Int32) : Option ((Nat → Nat → Int32)) := (if a4 = 0 then (mX12_test_93 b9 I a2 a3) else (Option.bind (mX12_answers I (11 : Int32)) (fun q20 => (mX12_test_93 b9 q20 a2 a3))))
set_option maxHeartbeats 400000 in
set_option maxRecDepth 100000 in
theorem kX12_test_82 {E : xE} {B : Nat} {n : Nat} {K : Nat → Nat × Nat} {P : Nat → Nat → Nat} {I : Nat → Nat → Int32} {L : Nat → Nat → Int64}  {b9 : (Nat → Nat → Int32) → Int32 → Int32 → Option ((Nat → Nat → Int32))} {a2 : Int32} {a3 : Int32} {a4 : Int32} {q : (Nat → Nat → Int32)} (d : Nat) (hd : 11 ≤ d) (G : GW K P)  (hb9 : ∀ (I : Nat → Nat → Int32) (a1 : Int32) (a2 : Int32), b9 I a1 a2 = some q → X E B d 0 0 yX12_test cX12_test 5 (none : Option Jvm.ClassFile.FieldType) (none, (n, K, P, q, L)) 9 [(0, .ref 123), (1, .int a1), (2, .int a2)] [] 0 0 (n, K, P, I, L))  (hm : mX12_test_82 b9 I a2 a3 a4 = some q) : X E B d 0 0 yX12_test cX12_test 5 (none : Option Jvm.ClassFile.FieldType) (none, (n, K, P, q, L)) 82 [(0, .ref 123), (2, .int a2), (3, .int a3), (4, .int a4)] [] 0 0 (n, K, P, I, L) := by
  obtain ⟨d, rfl⟩ : ∃ d0, d = d0 + 1 := ⟨d - 1, by omega⟩
  unfold mX12_test_82 at hm
  refine X_iload 3 dX12_test_82 rfl ?_
  refine X_if_eq (tgt := 93) dX12_test_84 (by decide) (fun c15 => ?_) (fun c15 => ?_)
  · replace hm := ip c15 hm
    exact X_lv [0, 1, 2] rfl (kX12_test_93 _ hd G hb9 hm)
  · replace hm := iq c15 hm
    refine X_aload_n 0 dX12_test_87 rfl rfl rfl ?_
    refine X_bipush (v := (11 : Int32)) dX12_test_88 (by decide) ?_
    obtain ⟨q20, e21, hm⟩ := ob hm
    refine X_cV0 (ci := 11) (kX12_answers d (by omega) G e21) ml_X12_288 mi_X12_answers rfl cf_11 (g_K123 G) rfl rfl (Nat.le_refl _) ⟨Nat.le_refl _, Nat.le_refl _⟩ (Nat.le_of_ble_eq_true rfl) dX12_test_90 ?_
    exact X_lv [0, 1, 2] rfl (kX12_test_93 _ hd G hb9 hm)
def mX12_test_164 (b9 : (Nat → Nat → Int32) → Int32 → Int32 → Option ((Nat → Nat → Int32))) (I : Nat → Nat → Int32) (a1 : Int32) (a2 : Int32) : Option ((Nat → Nat → Int32)) := (b9 (xu (xu (xu I 123 28 ((I 123 28) + (1 : Int32))) 123 35 (((xu I 123 28 ((I 123 28) + (1 : Int32))) 123 35) - (1 : Int32))) 123 33 (((xu (xu I 123 28 ((I 123 28) + (1 : Int32))) 123 35 (((xu I 123 28 ((I 123 28) + (1 : Int32))) 123 35) - (1 : Int32))) 123 33) - (1 : Int32))) a1 a2)
set_option maxHeartbeats 400000 in
set_option maxRecDepth 100000 in
theorem kX12_test_164 {E : xE} {B : Nat} {n : Nat} {K : Nat → Nat × Nat} {P : Nat → Nat → Nat} {I : Nat → Nat → Int32} {L : Nat → Nat → Int64}  {b9 : (Nat → Nat → Int32) → Int32 → Int32 → Option ((Nat → Nat → Int32))} {a1 : Int32} {a2 : Int32} {q : (Nat → Nat → Int32)} (d : Nat) (hd : 11 ≤ d) (G : GW K P)  (hb9 : ∀ (I : Nat → Nat → Int32) (a1 : Int32) (a2 : Int32), b9 I a1 a2 = some q → X E B d 0 0 yX12_test cX12_test 5 (none : Option Jvm.ClassFile.FieldType) (none, (n, K, P, q, L)) 9 [(0, .ref 123), (1, .int a1), (2, .int a2)] [] 0 0 (n, K, P, I, L))  (hm : mX12_test_164 b9 I a1 a2 = some q) : X E B d 0 0 yX12_test cX12_test 5 (none : Option Jvm.ClassFile.FieldType) (none, (n, K, P, q, L)) 164 [(0, .ref 123), (1, .int a1), (2, .int a2)] [] 0 0 (n, K, P, I, L) := by
  obtain ⟨d, rfl⟩ : ∃ d0, d = d0 + 1 := ⟨d - 1, by omega⟩
  unfold mX12_test_164 at hm
  refine X_aload_n 0 dX12_test_164 rfl rfl rfl ?_
  refine X_dup dX12_test_165 rfl ?_
  refine X_getI fl_X12_202 (g_K123 G) rfl dX12_test_166 ?_
  refine X_iconst (v := (1 : Int32)) dX12_test_169 (by decide) ?_
  refine X_iadd dX12_test_170 ?_
  refine X_putI fl_X12_202 (g_K123 G) rfl rfl dX12_test_171 ?_
  refine X_aload_n 0 dX12_test_174 rfl rfl rfl ?_
  refine X_dup dX12_test_175 rfl ?_
  refine X_getI fl_X12_269 (g_K123 G) rfl dX12_test_176 ?_
  refine X_iconst (v := (1 : Int32)) dX12_test_179 (by decide) ?_
  refine X_isub dX12_test_180 ?_
  refine X_putI fl_X12_269 (g_K123 G) rfl rfl dX12_test_181 ?_
  refine X_aload_n 0 dX12_test_184 rfl rfl rfl ?_
  refine X_dup dX12_test_185 rfl ?_
  refine X_getI fl_X12_272 (g_K123 G) rfl dX12_test_186 ?_
  refine X_iconst (v := (1 : Int32)) dX12_test_189 (by decide) ?_
  refine X_isub dX12_test_190 ?_
  refine X_putI fl_X12_272 (g_K123 G) rfl rfl dX12_test_191 ?_
  refine X_goto (tgt := 199) dX12_test_194 (by decide) ?_
  refine X_goto (tgt := 9) dX12_test_199 (by decide) ?_
  exact hb9 _ _ _ hm
def mX12_test_9   : Nat → (Nat → Nat → Int32) → Int32 → Int32 → Option ((Nat → Nat → Int32))
  | 0, _, _, _ => none
  | f + 1, I, a1, a2 => (if a2 = 0 then (some I) else (if (I 123 29) = 0 then (if a1 = 0 then (Option.bind (mX12_answers I (9 : Int32)) (fun q4 => (Option.bind (mX12_blanks q4) (fun q6 => (Option.bind (mX12_stood q6 22) (fun q8 => (Option.bind (mX12_stood q6 23) (fun q10 => (Option.bind (mX12_answers q6 (10 : Int32)) (fun q12 => (if q8 = 0 then (if q10 = 0 then (Option.bind (mX12_answers q12 (11 : Int32)) (fun q23 => (Option.bind (mX12_top q23) (fun q25 => (if q25 = (12 : Int32) then (Option.bind (mX12_sign q23) (fun q28 => (if q28 = (93 : Int32) then (mX12_test_164 (fun (I : Nat → Nat → Int32) (a1 : Int32) (a2 : Int32) => mX12_test_9  f I a1 a2) q23 a1 a2) else (Option.bind (mX12_fails q23 (0 : Int32) (q23 123 28)) (fun q31 => (mX12_test_164 (fun (I : Nat → Nat → Int32) (a1 : Int32) (a2 : Int32) => mX12_test_9  f I a1 a2) q31 a1 a2)))))) else (mX12_test_9 f q23 a1 (0 : Int32))))))) else (mX12_test_82 (fun (I : Nat → Nat → Int32) (a1 : Int32) (a2 : Int32) => mX12_test_9  f I a1 a2) q12 a2 q8 q10)) else (mX12_test_82 (fun (I : Nat → Nat → Int32) (a1 : Int32) (a2 : Int32) => mX12_test_9  f I a1 a2) q12 a2 q8 q10)))))))))))) else (Option.bind (mX12_fact I) (fun q33 => (if q33.1 = 0 then (mX12_test_9 f q33.2 (1 : Int32) a2) else (mX12_test_9 f q33.2 (0 : Int32) a2))))) else (some I)))
set_option maxHeartbeats 400000 in
set_option maxRecDepth 100000 in
theorem kX12_test_9 {E : xE} {B : Nat} {n : Nat} {K : Nat → Nat × Nat} {P : Nat → Nat → Nat} {L : Nat → Nat → Int64}   {q : (Nat → Nat → Int32)} (d : Nat) (hd : 11 ≤ d) (G : GW K P)   : ∀ (f : Nat) (I : Nat → Nat → Int32) (a1 : Int32) (a2 : Int32), mX12_test_9 f I a1 a2 = some q → X E B d 0 0 yX12_test cX12_test 5 (none : Option Jvm.ClassFile.FieldType) (none, (n, K, P, q, L)) 9 [(0, .ref 123), (1, .int a1), (2, .int a2)] [] 0 0 (n, K, P, I, L) := by
  obtain ⟨d, rfl⟩ : ∃ d0, d = d0 + 1 := ⟨d - 1, by omega⟩
  intro f
  induction f with
  | zero => intro _ _ _ hm; exact nomatch (show (none : Option ((Nat → Nat → Int32))) = some q from hm)
  | succ f ih =>
    intro I a1 a2 hm
    rw [mX12_test_9] at hm
    refine X_iload_n 2 dX12_test_9 rfl rfl ?_
    refine X_if_eq (tgt := 202) dX12_test_10 (by decide) (fun c1 => ?_) (fun c1 => ?_)
    · replace hm := ip c1 hm
      replace hm := Option.some.inj hm
      subst hm
      exact X_vret dX12_test_202 rfl
    · replace hm := iq c1 hm
      refine X_aload_n 0 dX12_test_13 rfl rfl rfl ?_
      refine X_getI fl_X12_199 (g_K123 G) rfl dX12_test_14 ?_
      refine X_if_ne (tgt := 202) dX12_test_17 (by decide) (fun c2 => ?_) (fun c2 => ?_)
      · replace hm := iq c2 hm
        replace hm := Option.some.inj hm
        subst hm
        exact X_vret dX12_test_202 rfl
      · replace hm := ip c2 hm
        refine X_iload_n 1 dX12_test_20 rfl rfl ?_
        refine X_if_eq (tgt := 40) dX12_test_21 (by decide) (fun c3 => ?_) (fun c3 => ?_)
        · replace hm := ip c3 hm
          refine X_aload_n 0 dX12_test_40 rfl rfl rfl ?_
          refine X_bipush (v := (9 : Int32)) dX12_test_41 (by decide) ?_
          obtain ⟨q4, e5, hm⟩ := ob hm
          refine X_cV0 (ci := 11) (kX12_answers d (by omega) G e5) ml_X12_288 mi_X12_answers rfl cf_11 (g_K123 G) rfl rfl (Nat.le_refl _) ⟨Nat.le_refl _, Nat.le_refl _⟩ (Nat.le_of_ble_eq_true rfl) dX12_test_43 ?_
          refine X_aload_n 0 dX12_test_46 rfl rfl rfl ?_
          obtain ⟨q6, e7, hm⟩ := ob hm
          refine X_cV0 (ci := 11) (kX12_blanks d (by omega) G e7) ml_X12_222 mi_X12_blanks rfl cf_11 (g_K123 G) rfl rfl (Nat.le_refl _) ⟨Nat.le_refl _, Nat.le_refl _⟩ (Nat.le_of_ble_eq_true rfl) dX12_test_47 ?_
          refine X_aload_n 0 dX12_test_50 rfl rfl rfl ?_
          refine X_ldcwS (i := 22) rfl (by decide) dX12_test_51 ?_
          obtain ⟨q8, e9, hm⟩ := ob hm
          refine X_cV1 (ci := 11) (kX12_stood d (by omega) G (by decide) e9) ml_X12_225 mi_X12_stood rfl cf_11 (g_K123 G) rfl rfl (Nat.le_refl _) ⟨Nat.le_refl _, Nat.le_refl _⟩ (Nat.le_of_ble_eq_true rfl) dX12_test_54 ?_
          refine X_istore_n (lv' := [(3, .int q8), (0, .ref 123), (1, .int a1), (2, .int a2)]) dX12_test_57 rfl (by decide) rfl ?_
          refine X_aload_n 1 dX12_test_58 rfl rfl rfl ?_
          refine X_ldcwS (i := 23) rfl (by decide) dX12_test_59 ?_
          obtain ⟨q10, e11, hm⟩ := ob hm
          refine X_cV1 (ci := 11) (kX12_stood d (by omega) G (by decide) e11) ml_X12_225 mi_X12_stood rfl cf_11 (g_K123 G) rfl rfl (Nat.le_refl _) ⟨Nat.le_refl _, Nat.le_refl _⟩ (Nat.le_of_ble_eq_true rfl) dX12_test_62 ?_
          refine X_istore (lv' := [(4, .int q10), (3, .int q8), (0, .ref 123), (1, .int a1), (2, .int a2)]) dX12_test_65 (by decide) rfl ?_
          refine X_aload_n 2 dX12_test_67 rfl rfl rfl ?_
          refine X_bipush (v := (10 : Int32)) dX12_test_68 (by decide) ?_
          obtain ⟨q12, e13, hm⟩ := ob hm
          refine X_cV0 (ci := 11) (kX12_answers d (by omega) G e13) ml_X12_288 mi_X12_answers rfl cf_11 (g_K123 G) rfl rfl (Nat.le_refl _) ⟨Nat.le_refl _, Nat.le_refl _⟩ (Nat.le_of_ble_eq_true rfl) dX12_test_70 ?_
          refine X_iload_n 1 dX12_test_73 rfl rfl ?_
          refine X_if_ne (tgt := 82) dX12_test_74 (by decide) (fun c14 => ?_) (fun c14 => ?_)
          · replace hm := iq c14 hm
            exact X_lv [2, 4, 1, 0] rfl (kX12_test_82 _ hd G ih hm)
          · replace hm := ip c14 hm
            refine X_iload 0 dX12_test_77 rfl ?_
            refine X_if_eq (tgt := 131) dX12_test_79 (by decide) (fun c22 => ?_) (fun c22 => ?_)
            · replace hm := ip c22 hm
              refine X_aload_n 2 dX12_test_131 rfl rfl rfl ?_
              refine X_bipush (v := (11 : Int32)) dX12_test_132 (by decide) ?_
              obtain ⟨q23, e24, hm⟩ := ob hm
              refine X_cV0 (ci := 11) (kX12_answers d (by omega) G e24) ml_X12_288 mi_X12_answers rfl cf_11 (g_K123 G) rfl rfl (Nat.le_refl _) ⟨Nat.le_refl _, Nat.le_refl _⟩ (Nat.le_of_ble_eq_true rfl) dX12_test_134 ?_
              refine X_aload_n 2 dX12_test_137 rfl rfl rfl ?_
              obtain ⟨q25, e26, hm⟩ := ob hm
              refine X_cV1 (ci := 11) (kX12_top d (by omega) G e26) ml_X12_275 mi_X12_top rfl cf_11 (g_K123 G) rfl rfl (Nat.le_refl _) ⟨Nat.le_refl _, Nat.le_refl _⟩ (Nat.le_of_ble_eq_true rfl) dX12_test_138 ?_
              refine X_bipush (v := (12 : Int32)) dX12_test_141 (by decide) ?_
              refine X_icmp_ne (tgt := 197) dX12_test_143 (by decide) (fun c27 => ?_) (fun c27 => ?_)
              · replace hm := iq c27 hm
                refine X_iconst (v := (0 : Int32)) dX12_test_197 (by decide) ?_
                refine X_istore_n (lv' := [(2, .int (0 : Int32)), (4, .int q10), (3, .int q8), (0, .ref 123), (1, .int a1)]) dX12_test_198 rfl (by decide) rfl ?_
                refine X_goto (tgt := 9) dX12_test_199 (by decide) ?_
                exact X_lv [3, 4, 0] rfl (ih _ _ _ hm)
              · replace hm := ip c27 hm
                refine X_aload_n 2 dX12_test_146 rfl rfl rfl ?_
                obtain ⟨q28, e29, hm⟩ := ob hm
                refine X_cV1 (ci := 11) (kX12_sign d (by omega) G e29) ml_X12_205 mi_X12_sign rfl cf_11 (g_K123 G) rfl rfl (Nat.le_refl _) ⟨Nat.le_refl _, Nat.le_refl _⟩ (Nat.le_of_ble_eq_true rfl) dX12_test_147 ?_
                refine X_bipush (v := (93 : Int32)) dX12_test_150 (by decide) ?_
                refine X_icmp_eq (tgt := 164) dX12_test_152 (by decide) (fun c30 => ?_) (fun c30 => ?_)
                · replace hm := ip c30 hm
                  exact X_lv [2, 3, 4] rfl (kX12_test_164 _ hd G ih hm)
                · replace hm := iq c30 hm
                  refine X_aload_n 2 dX12_test_155 rfl rfl rfl ?_
                  refine X_iconst (v := (0 : Int32)) dX12_test_156 (by decide) ?_
                  refine X_aload_n 2 dX12_test_157 rfl rfl rfl ?_
                  refine X_getI fl_X12_202 (g_K123 G) rfl dX12_test_158 ?_
                  obtain ⟨q31, e32, hm⟩ := ob hm
                  refine X_cV0 (ci := 11) (kX12_fails d (by omega) G e32) ml_X12_238 mi_X12_fails rfl cf_11 (g_K123 G) rfl rfl (Nat.le_refl _) ⟨Nat.le_refl _, Nat.le_refl _⟩ (Nat.le_of_ble_eq_true rfl) dX12_test_161 ?_
                  exact X_lv [2, 3, 4] rfl (kX12_test_164 _ hd G ih hm)
            · replace hm := iq c22 hm
              exact X_lv [2, 4, 1, 0] rfl (kX12_test_82 _ hd G ih hm)
        · replace hm := iq c3 hm
          refine X_aload_n 0 dX12_test_24 rfl rfl rfl ?_
          obtain ⟨q33, e34, hm⟩ := ob hm
          refine X_cV1 (ci := 11) (kX12_fact d (by omega) G e34) ml_X12_285 mi_X12_fact rfl cf_11 (g_K123 G) rfl rfl (Nat.le_refl _) ⟨Nat.le_refl _, Nat.le_refl _⟩ (Nat.le_of_ble_eq_true rfl) dX12_test_25 ?_
          refine X_if_ne (tgt := 35) dX12_test_28 (by decide) (fun c35 => ?_) (fun c35 => ?_)
          · replace hm := iq c35 hm
            refine X_iconst (v := (0 : Int32)) dX12_test_35 (by decide) ?_
            refine X_istore_n (lv' := [(1, .int (0 : Int32)), (0, .ref 123), (2, .int a2)]) dX12_test_36 rfl (by decide) rfl ?_
            refine X_goto (tgt := 9) dX12_test_37 (by decide) ?_
            exact X_lv [1, 0, 2] rfl (ih _ _ _ hm)
          · replace hm := ip c35 hm
            refine X_iconst (v := (1 : Int32)) dX12_test_31 (by decide) ?_
            refine X_goto (tgt := 36) dX12_test_32 (by decide) ?_
            refine X_istore_n (lv' := [(1, .int (1 : Int32)), (0, .ref 123), (2, .int a2)]) dX12_test_36 rfl (by decide) rfl ?_
            refine X_goto (tgt := 9) dX12_test_37 (by decide) ?_
            exact X_lv [1, 0, 2] rfl (ih _ _ _ hm)
def mX12_test  (I : Nat → Nat → Int32) : Option ((Nat → Nat → Int32)) := (mX12_test_9 xf (xu I 123 35 (0 : Int32)) (1 : Int32) (1 : Int32))
set_option maxHeartbeats 400000 in
set_option maxRecDepth 100000 in
theorem kX12_test {E : xE} {B : Nat} {n : Nat} {K : Nat → Nat × Nat} {P : Nat → Nat → Nat} {I : Nat → Nat → Int32} {L : Nat → Nat → Int64}   {q : (Nat → Nat → Int32)} (d : Nat) (hd : 11 ≤ d) (G : GW K P)   (hm : mX12_test I = some q) : MX E B d 0 0 yX12_test cX12_test 5 (none : Option Jvm.ClassFile.FieldType) [.ref 123] (n, K, P, I, L) (none, (n, K, P, q, L)) := by
  refine MX_of (lv := [(0, .ref 123)]) (by decide +kernel) (Nat.le_of_ble_eq_true rfl) rfl ?_
  obtain ⟨d, rfl⟩ : ∃ d0, d = d0 + 1 := ⟨d - 1, by omega⟩
  unfold mX12_test at hm
  refine X_aload_n 0 dX12_test_0 rfl rfl rfl ?_
  refine X_iconst (v := (0 : Int32)) dX12_test_1 (by decide) ?_
  refine X_putI fl_X12_269 (g_K123 G) rfl rfl dX12_test_2 ?_
  refine X_iconst (v := (1 : Int32)) dX12_test_5 (by decide) ?_
  refine X_istore_n (lv' := [(1, .int (1 : Int32)), (0, .ref 123)]) dX12_test_6 rfl (by decide) rfl ?_
  refine X_iconst (v := (1 : Int32)) dX12_test_7 (by decide) ?_
  refine X_istore_n (lv' := [(2, .int (1 : Int32)), (1, .int (1 : Int32)), (0, .ref 123)]) dX12_test_8 rfl (by decide) rfl ?_
  refine X_lv [2, 1, 0] rfl (kX12_test_9 _ hd G xf _ _ _  hm)
def mX12_amount_26  (I : Nat → Nat → Int32) (a1 : Int32) (a2 : Int32) (a3 : Int32) (t0 : Int32) : Option (Int32 × (Nat → Nat → Int32)) := (if (I 123 29) = 0 then (Option.bind (mX12_in t0.toInt64 a1.toInt64 a2.toInt64) (fun q5 => (if q5 = 0 then (Option.bind (mX12_fails I (1 : Int32) a3) (fun q8 => (some (t0, q8)))) else (some (t0, I))))) else (some (t0, I)))
set_option maxHeartbeats 400000 in
set_option maxRecDepth 100000 in
theorem kX12_amount_26 {E : xE} {B : Nat} {n : Nat} {K : Nat → Nat × Nat} {P : Nat → Nat → Nat} {I : Nat → Nat → Int32} {L : Nat → Nat → Int64}   {a1 : Int32} {a2 : Int32} {a3 : Int32} {t0 : Int32} {q : Int32 × (Nat → Nat → Int32)} (d : Nat) (hd : 3 ≤ d) (G : GW K P)    (hm : mX12_amount_26 I a1 a2 a3 t0 = some q) : X E B d 0 0 yX12_amount cX12_amount 5 (some .int) (some (.int q.1), (n, K, P, q.2, L)) 26 [(0, .ref 123), (1, .int a1), (2, .int a2), (3, .int a3)] [.int t0] 0 0 (n, K, P, I, L) := by
  obtain ⟨d, rfl⟩ : ∃ d0, d = d0 + 1 := ⟨d - 1, by omega⟩
  unfold mX12_amount_26 at hm
  refine X_istore (lv' := [(4, .int t0), (0, .ref 123), (1, .int a1), (2, .int a2), (3, .int a3)]) dX12_amount_26 (by decide) rfl ?_
  refine X_aload_n 1 dX12_amount_28 rfl rfl rfl ?_
  refine X_getI fl_X12_199 (g_K123 G) rfl dX12_amount_29 ?_
  refine X_if_ne (tgt := 54) dX12_amount_32 (by decide) (fun c4 => ?_) (fun c4 => ?_)
  · replace hm := iq c4 hm
    refine X_iload 0 dX12_amount_54 rfl ?_
    replace hm := Option.some.inj hm
    subst hm
    exact X_iret dX12_amount_56 rfl
  · replace hm := ip c4 hm
    refine X_iload 0 dX12_amount_35 rfl ?_
    refine X_i2l dX12_amount_37 ?_
    refine X_iload_n 2 dX12_amount_38 rfl rfl ?_
    refine X_i2l dX12_amount_39 ?_
    refine X_iload_n 3 dX12_amount_40 rfl rfl ?_
    refine X_i2l dX12_amount_41 ?_
    obtain ⟨q5, e6, hm⟩ := ob hm
    refine X_cS1 (kX12_in d (by omega) G e6) ml_X12_164 ms_X12_in rfl rfl (Nat.le_refl _) ⟨Nat.le_refl _, Nat.le_refl _⟩ (Nat.le_of_ble_eq_true rfl) dX12_amount_42 ?_
    refine X_if_ne (tgt := 54) dX12_amount_45 (by decide) (fun c7 => ?_) (fun c7 => ?_)
    · replace hm := iq c7 hm
      refine X_iload 0 dX12_amount_54 rfl ?_
      replace hm := Option.some.inj hm
      subst hm
      exact X_iret dX12_amount_56 rfl
    · replace hm := ip c7 hm
      refine X_aload_n 1 dX12_amount_48 rfl rfl rfl ?_
      refine X_iconst (v := (1 : Int32)) dX12_amount_49 (by decide) ?_
      refine X_iload_n 4 dX12_amount_50 rfl rfl ?_
      obtain ⟨q8, e9, hm⟩ := ob hm
      refine X_cV0 (ci := 11) (kX12_fails d (by omega) G e9) ml_X12_238 mi_X12_fails rfl cf_11 (g_K123 G) rfl rfl (Nat.le_refl _) ⟨Nat.le_refl _, Nat.le_refl _⟩ (Nat.le_of_ble_eq_true rfl) dX12_amount_51 ?_
      refine X_iload 0 dX12_amount_54 rfl ?_
      replace hm := Option.some.inj hm
      subst hm
      exact X_iret dX12_amount_56 rfl
def mX12_amount  (I : Nat → Nat → Int32) (a1 : Int32) (a2 : Int32) : Option (Int32 × (Nat → Nat → Int32)) := (Option.bind (mX12_blanks I) (fun q1 => (if (q1 123 29) = 0 then (Option.bind (mX12_digits q1 (99999 : Int32)) (fun q10 => (mX12_amount_26 q10.2 a1 a2 (q1 123 28) q10.1))) else (mX12_amount_26 q1 a1 a2 (q1 123 28) (0 : Int32)))))
set_option maxHeartbeats 400000 in
set_option maxRecDepth 100000 in
theorem kX12_amount {E : xE} {B : Nat} {n : Nat} {K : Nat → Nat × Nat} {P : Nat → Nat → Nat} {I : Nat → Nat → Int32} {L : Nat → Nat → Int64}  {a1 : Int32} {a2 : Int32} {q : Int32 × (Nat → Nat → Int32)} (d : Nat) (hd : 3 ≤ d) (G : GW K P)   (hm : mX12_amount I a1 a2 = some q) : MX E B d 0 0 yX12_amount cX12_amount 5 (some .int) [.ref 123, .int a1, .int a2] (n, K, P, I, L) (some (.int q.1), (n, K, P, q.2, L)) := by
  refine MX_of (lv := [(0, .ref 123), (1, .int a1), (2, .int a2)]) (by decide +kernel) (Nat.le_of_ble_eq_true rfl) rfl ?_
  obtain ⟨d, rfl⟩ : ∃ d0, d = d0 + 1 := ⟨d - 1, by omega⟩
  unfold mX12_amount at hm
  refine X_aload_n 0 dX12_amount_0 rfl rfl rfl ?_
  obtain ⟨q1, e2, hm⟩ := ob hm
  refine X_cV0 (ci := 11) (kX12_blanks d (by omega) G e2) ml_X12_222 mi_X12_blanks rfl cf_11 (g_K123 G) rfl rfl (Nat.le_refl _) ⟨Nat.le_refl _, Nat.le_refl _⟩ (Nat.le_of_ble_eq_true rfl) dX12_amount_1 ?_
  refine X_aload_n 0 dX12_amount_4 rfl rfl rfl ?_
  refine X_getI fl_X12_202 (g_K123 G) rfl dX12_amount_5 ?_
  refine X_istore_n (lv' := [(3, .int (q1 123 28)), (0, .ref 123), (1, .int a1), (2, .int a2)]) dX12_amount_8 rfl (by decide) rfl ?_
  refine X_aload_n 1 dX12_amount_9 rfl rfl rfl ?_
  refine X_getI fl_X12_199 (g_K123 G) rfl dX12_amount_10 ?_
  refine X_if_ne (tgt := 25) dX12_amount_13 (by decide) (fun c3 => ?_) (fun c3 => ?_)
  · replace hm := iq c3 hm
    refine X_iconst (v := (0 : Int32)) dX12_amount_25 (by decide) ?_
    exact X_lv [1, 2, 3, 0] rfl (kX12_amount_26 _ hd G hm)
  · replace hm := ip c3 hm
    refine X_aload_n 1 dX12_amount_16 rfl rfl rfl ?_
    refine X_ldc lc_X12_246 dX12_amount_17 ?_
    obtain ⟨q10, e11, hm⟩ := ob hm
    refine X_cV1 (ci := 11) (kX12_digits d (by omega) G e11) ml_X12_247 mi_X12_digits rfl cf_11 (g_K123 G) rfl rfl (Nat.le_refl _) ⟨Nat.le_refl _, Nat.le_refl _⟩ (Nat.le_of_ble_eq_true rfl) dX12_amount_19 ?_
    refine X_goto (tgt := 26) dX12_amount_22 (by decide) ?_
    exact X_lv [1, 2, 3, 0] rfl (kX12_amount_26 _ hd G hm)
def mX12_streetWord  (a0 : Int32) : Option (Nat) := (if a0 = (0 : Int32) then (some 2) else (if a0 = (1 : Int32) then (some 3) else (if a0 = (2 : Int32) then (some 4) else (if a0 = (3 : Int32) then (some 5) else (if a0 = (4 : Int32) then (some 6) else (if a0 = (5 : Int32) then (some 7) else (some 8)))))))
set_option maxHeartbeats 400000 in
set_option maxRecDepth 100000 in
theorem kX12_streetWord {E : xE} {B : Nat} {n : Nat} {K : Nat → Nat × Nat} {P : Nat → Nat → Nat} {I : Nat → Nat → Int32} {L : Nat → Nat → Int64}  {a0 : Int32} {q : Nat} (d : Nat) (hd : 0 ≤ d) (G : GW K P)   (hm : mX12_streetWord a0 = some q) : MX E B d 0 0 yX12_streetWord cX12_streetWord 1 (some (.object "java/lang/String")) [.int a0] (n, K, P, I, L) (some (.retAddr q), (n, K, P, I, L)) := by
  refine MX_of (lv := [(0, .int a0)]) (by decide +kernel) (Nat.le_of_ble_eq_true rfl) rfl ?_
  unfold mX12_streetWord at hm
  refine X_iload_n 0 dX12_streetWord_0 rfl rfl ?_
  rcases Decidable.em (a0 = (0 : Int32)) with c1 | c1
  · replace hm := ip c1 hm
    refine X_swK (off := 39) (tgt := 40) c1 dX12_streetWord_1 (by decide) (by decide) (by decide) (by decide) ?_
    refine X_ldcwS (i := 2) rfl (by decide) dX12_streetWord_40 ?_
    replace hm := Option.some.inj hm
    subst hm
    exact X_aret dX12_streetWord_43 rfl (Or.inl ⟨_, rfl⟩) rfl
  · replace hm := iq c1 hm
    rcases Decidable.em (a0 = (1 : Int32)) with c2 | c2
    · replace hm := ip c2 hm
      refine X_swK (off := 43) (tgt := 44) c2 dX12_streetWord_1 (by decide) (by decide) (by decide) (by decide) ?_
      refine X_ldcS (i := 3) rfl (by decide) dX12_streetWord_44 ?_
      replace hm := Option.some.inj hm
      subst hm
      exact X_aret dX12_streetWord_46 rfl (Or.inl ⟨_, rfl⟩) rfl
    · replace hm := iq c2 hm
      rcases Decidable.em (a0 = (2 : Int32)) with c3 | c3
      · replace hm := ip c3 hm
        refine X_swK (off := 46) (tgt := 47) c3 dX12_streetWord_1 (by decide) (by decide) (by decide) (by decide) ?_
        refine X_ldcS (i := 4) rfl (by decide) dX12_streetWord_47 ?_
        replace hm := Option.some.inj hm
        subst hm
        exact X_aret dX12_streetWord_49 rfl (Or.inl ⟨_, rfl⟩) rfl
      · replace hm := iq c3 hm
        rcases Decidable.em (a0 = (3 : Int32)) with c4 | c4
        · replace hm := ip c4 hm
          refine X_swK (off := 49) (tgt := 50) c4 dX12_streetWord_1 (by decide) (by decide) (by decide) (by decide) ?_
          refine X_ldcwS (i := 5) rfl (by decide) dX12_streetWord_50 ?_
          replace hm := Option.some.inj hm
          subst hm
          exact X_aret dX12_streetWord_53 rfl (Or.inl ⟨_, rfl⟩) rfl
        · replace hm := iq c4 hm
          rcases Decidable.em (a0 = (4 : Int32)) with c5 | c5
          · replace hm := ip c5 hm
            refine X_swK (off := 53) (tgt := 54) c5 dX12_streetWord_1 (by decide) (by decide) (by decide) (by decide) ?_
            refine X_ldcwS (i := 6) rfl (by decide) dX12_streetWord_54 ?_
            replace hm := Option.some.inj hm
            subst hm
            exact X_aret dX12_streetWord_57 rfl (Or.inl ⟨_, rfl⟩) rfl
          · replace hm := iq c5 hm
            rcases Decidable.em (a0 = (5 : Int32)) with c6 | c6
            · replace hm := ip c6 hm
              refine X_swK (off := 57) (tgt := 58) c6 dX12_streetWord_1 (by decide) (by decide) (by decide) (by decide) ?_
              refine X_ldcS (i := 7) rfl (by decide) dX12_streetWord_58 ?_
              replace hm := Option.some.inj hm
              subst hm
              exact X_aret dX12_streetWord_60 rfl (Or.inl ⟨_, rfl⟩) rfl
            · replace hm := iq c6 hm
              refine X_tableOut (tgt := 61) dX12_streetWord_1 (sw_out 6 (by decide) (fun i hi => by
                have hi2 : i = 0 ∨ i = 1 ∨ i = 2 ∨ i = 3 ∨ i = 4 ∨ i = 5 := by omega
                rcases hi2 with rfl | rfl | rfl | rfl | rfl | rfl
                · exact c1
                · exact c2
                · exact c3
                · exact c4
                · exact c5
                · exact c6)) (by decide) ?_
              refine X_ldcwS (i := 8) rfl (by decide) dX12_streetWord_61 ?_
              replace hm := Option.some.inj hm
              subst hm
              exact X_aret dX12_streetWord_64 rfl (Or.inl ⟨_, rfl⟩) rfl
theorem rs_X12_streetWord {a0 : Int32} {q : Nat} (e : mX12_streetWord a0 = some q) : q < 24 := by
  unfold mX12_streetWord at e
  repeat' split at e
  all_goals (cases e; decide)
def mX12_readsThing_65  (I : Nat → Nat → Int32) (a1 : Int32) : Option ((Nat → Nat → Int32)) := (if inb (a1 + (1 : Int32)) 5 = true then (some (xu (xu I 141 3 ((I 141 3) + (1 : Int32))) 142 (ix (a1 + (1 : Int32))) ((xu I 141 3 ((I 141 3) + (1 : Int32))) 141 4))) else none)
set_option maxHeartbeats 400000 in
set_option maxRecDepth 100000 in
theorem kX12_readsThing_65 {E : xE} {B : Nat} {n : Nat} {K : Nat → Nat × Nat} {P : Nat → Nat → Nat} {I : Nat → Nat → Int32} {L : Nat → Nat → Int64}   {a1 : Int32} {q : (Nat → Nat → Int32)} (d : Nat) (hd : 4 ≤ d) (G : GW K P)    (hm : mX12_readsThing_65 I a1 = some q) : X E B d 0 0 yX12_readsThing cX12_readsThing 4 (none : Option Jvm.ClassFile.FieldType) (none, (n, K, P, q, L)) 65 [(0, .ref 123), (1, .int a1)] [] 0 0 (n, K, P, I, L) := by
  obtain ⟨d, rfl⟩ : ∃ d0, d = d0 + 1 := ⟨d - 1, by omega⟩
  unfold mX12_readsThing_65 at hm
  refine X_aload_n 0 dX12_readsThing_65 rfl rfl rfl ?_
  refine X_getPe fl_X12_61 (g_K123 G) rfl (g_P123_18 G) dX12_readsThing_66 ?_
  refine X_iconst (v := (3 : Int32)) dX12_readsThing_69 (by decide) ?_
  refine X_dup2 dX12_readsThing_70 rfl rfl ?_
  refine X_ialdJ (j := 3) (g_K141 G) rfl (by decide) dX12_readsThing_71 ?_
  refine X_iconst (v := (1 : Int32)) dX12_readsThing_72 (by decide) ?_
  refine X_iadd dX12_readsThing_73 ?_
  refine X_iastJ (j := 3) (g_K141 G) rfl (by decide) dX12_readsThing_74 ?_
  refine X_aload_n 0 dX12_readsThing_75 rfl rfl rfl ?_
  refine X_getPe fl_X12_64 (g_K123 G) rfl (g_P123_19 G) dX12_readsThing_76 ?_
  refine X_iload_n 1 dX12_readsThing_79 rfl rfl ?_
  refine X_iconst (v := (1 : Int32)) dX12_readsThing_80 (by decide) ?_
  refine X_iadd dX12_readsThing_81 ?_
  refine X_aload_n 0 dX12_readsThing_82 rfl rfl rfl ?_
  refine X_getPe fl_X12_61 (g_K123 G) rfl (g_P123_18 G) dX12_readsThing_83 ?_
  refine X_iconst (v := (4 : Int32)) dX12_readsThing_86 (by decide) ?_
  refine X_ialdJ (j := 4) (g_K141 G) rfl (by decide) dX12_readsThing_87 ?_
  obtain ⟨g8, hm⟩ := og hm
  refine X_iastJ (g_K142 G) g8 rfl dX12_readsThing_88 ?_
  replace hm := Option.some.inj hm
  subst hm
  exact X_vret dX12_readsThing_89 rfl
def mX12_readsThing_31  (I : Nat → Nat → Int32) (a1 : Int32) (t0 : Int32) (t1 : Int32) : Option ((Nat → Nat → Int32)) := (Option.bind (mX12_amount I t1 t0) (fun q2 => (Option.bind (mX12_amount q2.2 (0 : Int32) (20 : Int32)) (fun q4 => (if inb a1 4 = true then (if ((xu q4.2 143 (ix a1) q4.1) 123 29) = 0 then (mX12_readsThing_65 (xu (xu q4.2 143 (ix a1) q4.1) 141 4 (((xu q4.2 143 (ix a1) q4.1) 141 4) + q2.1)) a1) else (mX12_readsThing_65 (xu q4.2 143 (ix a1) q4.1) a1)) else none)))))
set_option maxHeartbeats 400000 in
set_option maxRecDepth 100000 in
theorem kX12_readsThing_31 {E : xE} {B : Nat} {n : Nat} {K : Nat → Nat × Nat} {P : Nat → Nat → Nat} {I : Nat → Nat → Int32} {L : Nat → Nat → Int64}   {a1 : Int32} {t0 : Int32} {t1 : Int32} {q : (Nat → Nat → Int32)} (d : Nat) (hd : 4 ≤ d) (G : GW K P)    (hm : mX12_readsThing_31 I a1 t0 t1 = some q) : X E B d 0 0 yX12_readsThing cX12_readsThing 4 (none : Option Jvm.ClassFile.FieldType) (none, (n, K, P, q, L)) 31 [(0, .ref 123), (1, .int a1)] [.int t0, .int t1, .ref 123] 0 0 (n, K, P, I, L) := by
  obtain ⟨d, rfl⟩ : ∃ d0, d = d0 + 1 := ⟨d - 1, by omega⟩
  unfold mX12_readsThing_31 at hm
  obtain ⟨q2, e3, hm⟩ := ob hm
  refine X_cV1 (ci := 11) (kX12_amount d (by omega) G e3) ml_X12_303 mi_X12_amount rfl cf_11 (g_K123 G) rfl rfl (Nat.le_refl _) ⟨Nat.le_refl _, Nat.le_refl _⟩ (Nat.le_of_ble_eq_true rfl) dX12_readsThing_31 ?_
  refine X_istore_n (lv' := [(3, .int q2.1), (0, .ref 123), (1, .int a1)]) dX12_readsThing_34 rfl (by decide) rfl ?_
  refine X_aload_n 1 dX12_readsThing_35 rfl rfl rfl ?_
  refine X_getPe fl_X12_67 (g_K123 G) rfl (g_P123_20 G) dX12_readsThing_36 ?_
  refine X_iload_n 2 dX12_readsThing_39 rfl rfl ?_
  refine X_aload_n 1 dX12_readsThing_40 rfl rfl rfl ?_
  refine X_iconst (v := (0 : Int32)) dX12_readsThing_41 (by decide) ?_
  refine X_bipush (v := (20 : Int32)) dX12_readsThing_42 (by decide) ?_
  obtain ⟨q4, e5, hm⟩ := ob hm
  refine X_cV1 (ci := 11) (kX12_amount d (by omega) G e5) ml_X12_303 mi_X12_amount rfl cf_11 (g_K123 G) rfl rfl (Nat.le_refl _) ⟨Nat.le_refl _, Nat.le_refl _⟩ (Nat.le_of_ble_eq_true rfl) dX12_readsThing_44 ?_
  obtain ⟨g6, hm⟩ := og hm
  refine X_iastJ (g_K143 G) g6 rfl dX12_readsThing_47 ?_
  refine X_aload_n 1 dX12_readsThing_48 rfl rfl rfl ?_
  refine X_getI fl_X12_199 (g_K123 G) rfl dX12_readsThing_49 ?_
  refine X_if_ne (tgt := 65) dX12_readsThing_52 (by decide) (fun c7 => ?_) (fun c7 => ?_)
  · replace hm := iq c7 hm
    exact X_lv [1, 2] rfl (kX12_readsThing_65 _ hd G hm)
  · replace hm := ip c7 hm
    refine X_aload_n 1 dX12_readsThing_55 rfl rfl rfl ?_
    refine X_getPe fl_X12_61 (g_K123 G) rfl (g_P123_18 G) dX12_readsThing_56 ?_
    refine X_iconst (v := (4 : Int32)) dX12_readsThing_59 (by decide) ?_
    refine X_dup2 dX12_readsThing_60 rfl rfl ?_
    refine X_ialdJ (j := 4) (g_K141 G) rfl (by decide) dX12_readsThing_61 ?_
    refine X_iload_n 0 dX12_readsThing_62 rfl rfl ?_
    refine X_iadd dX12_readsThing_63 ?_
    refine X_iastJ (j := 4) (g_K141 G) rfl (by decide) dX12_readsThing_64 ?_
    exact X_lv [1, 2] rfl (kX12_readsThing_65 _ hd G hm)
def mX12_readsThing  (I : Nat → Nat → Int32) : Option ((Nat → Nat → Int32)) := (if (6 : Int32) ≤ ((16 : Int32) - (I 141 4)) then (mX12_readsThing_31 I (I 141 3) (6 : Int32) (1 : Int32)) else (mX12_readsThing_31 I (I 141 3) ((16 : Int32) - (I 141 4)) (1 : Int32)))
set_option maxHeartbeats 400000 in
set_option maxRecDepth 100000 in
theorem kX12_readsThing {E : xE} {B : Nat} {n : Nat} {K : Nat → Nat × Nat} {P : Nat → Nat → Nat} {I : Nat → Nat → Int32} {L : Nat → Nat → Int64}   {q : (Nat → Nat → Int32)} (d : Nat) (hd : 4 ≤ d) (G : GW K P)   (hm : mX12_readsThing I = some q) : MX E B d 0 0 yX12_readsThing cX12_readsThing 4 (none : Option Jvm.ClassFile.FieldType) [.ref 123] (n, K, P, I, L) (none, (n, K, P, q, L)) := by
  refine MX_of (lv := [(0, .ref 123)]) (by decide +kernel) (Nat.le_of_ble_eq_true rfl) rfl ?_
  obtain ⟨d, rfl⟩ : ∃ d0, d = d0 + 1 := ⟨d - 1, by omega⟩
  unfold mX12_readsThing at hm
  refine X_aload_n 0 dX12_readsThing_0 rfl rfl rfl ?_
  refine X_getPe fl_X12_61 (g_K123 G) rfl (g_P123_18 G) dX12_readsThing_1 ?_
  refine X_iconst (v := (3 : Int32)) dX12_readsThing_4 (by decide) ?_
  refine X_ialdJ (j := 3) (g_K141 G) rfl (by decide) dX12_readsThing_5 ?_
  refine X_istore_n (lv' := [(1, .int (I 141 3)), (0, .ref 123)]) dX12_readsThing_6 rfl (by decide) rfl ?_
  refine X_bipush (v := (16 : Int32)) dX12_readsThing_7 (by decide) ?_
  refine X_aload_n 1 dX12_readsThing_9 rfl rfl rfl ?_
  refine X_getPe fl_X12_61 (g_K123 G) rfl (g_P123_18 G) dX12_readsThing_10 ?_
  refine X_iconst (v := (4 : Int32)) dX12_readsThing_13 (by decide) ?_
  refine X_ialdJ (j := 4) (g_K141 G) rfl (by decide) dX12_readsThing_14 ?_
  refine X_isub dX12_readsThing_15 ?_
  refine X_istore_n (lv' := [(2, .int ((16 : Int32) - (I 141 4))), (1, .int (I 141 3)), (0, .ref 123)]) dX12_readsThing_16 rfl (by decide) rfl ?_
  refine X_aload_n 2 dX12_readsThing_17 rfl rfl rfl ?_
  refine X_iconst (v := (1 : Int32)) dX12_readsThing_18 (by decide) ?_
  refine X_iload_n 0 dX12_readsThing_19 rfl rfl ?_
  refine X_bipush (v := (6 : Int32)) dX12_readsThing_20 (by decide) ?_
  refine X_icmp_ge (tgt := 29) dX12_readsThing_22 (by decide) (fun c1 => ?_) (fun c1 => ?_)
  · replace hm := ip c1 hm
    refine X_bipush (v := (6 : Int32)) dX12_readsThing_29 (by decide) ?_
    exact X_lv [2, 1] rfl (kX12_readsThing_31 _ hd G hm)
  · replace hm := iq c1 hm
    refine X_iload_n 0 dX12_readsThing_25 rfl rfl ?_
    refine X_goto (tgt := 31) dX12_readsThing_26 (by decide) ?_
    exact X_lv [2, 1] rfl (kX12_readsThing_31 _ hd G hm)
def mX12_readsCoat_91  (I : Nat → Nat → Int32) (a1 : Int32) (a2 : Int32) : Option ((Nat → Nat → Int32)) := (if inb a1 16 = true then (if inb (((5 : Int32) * a1) + (I 148 (ix a1))) 80 = true then (if inb a1 16 = true then (if inb a1 16 = true then (some (xu (xu I 149 (ix (((5 : Int32) * a1) + (I 148 (ix a1)))) a2) 148 (ix a1) (((xu I 149 (ix (((5 : Int32) * a1) + (I 148 (ix a1)))) a2) 148 (ix a1)) + (1 : Int32)))) else none) else none) else none) else none)
set_option maxHeartbeats 400000 in
set_option maxRecDepth 100000 in
theorem kX12_readsCoat_91 {E : xE} {B : Nat} {n : Nat} {K : Nat → Nat × Nat} {P : Nat → Nat → Nat} {I : Nat → Nat → Int32} {L : Nat → Nat → Int64}   {a1 : Int32} {a2 : Int32} {q : (Nat → Nat → Int32)} (d : Nat) (hd : 4 ≤ d) (G : GW K P)    (hm : mX12_readsCoat_91 I a1 a2 = some q) : X E B d 0 0 yX12_readsCoat cX12_readsCoat 4 (none : Option Jvm.ClassFile.FieldType) (none, (n, K, P, q, L)) 91 [(0, .ref 123), (1, .int a1), (2, .int a2)] [] 0 0 (n, K, P, I, L) := by
  obtain ⟨d, rfl⟩ : ∃ d0, d = d0 + 1 := ⟨d - 1, by omega⟩
  unfold mX12_readsCoat_91 at hm
  refine X_aload_n 0 dX12_readsCoat_91 rfl rfl rfl ?_
  refine X_getPe fl_X12_85 (g_K123 G) rfl (g_P123_26 G) dX12_readsCoat_92 ?_
  refine X_iconst (v := (5 : Int32)) dX12_readsCoat_95 (by decide) ?_
  refine X_iload_n 1 dX12_readsCoat_96 rfl rfl ?_
  refine X_imul dX12_readsCoat_97 ?_
  refine X_aload_n 0 dX12_readsCoat_98 rfl rfl rfl ?_
  refine X_getPe fl_X12_82 (g_K123 G) rfl (g_P123_25 G) dX12_readsCoat_99 ?_
  refine X_iload_n 1 dX12_readsCoat_102 rfl rfl ?_
  obtain ⟨g8, hm⟩ := og hm
  refine X_ialdJ (g_K148 G) g8 rfl dX12_readsCoat_103 ?_
  refine X_iadd dX12_readsCoat_104 ?_
  refine X_iload_n 2 dX12_readsCoat_105 rfl rfl ?_
  obtain ⟨g9, hm⟩ := og hm
  refine X_iastJ (g_K149 G) g9 rfl dX12_readsCoat_106 ?_
  refine X_aload_n 0 dX12_readsCoat_107 rfl rfl rfl ?_
  refine X_getPe fl_X12_82 (g_K123 G) rfl (g_P123_25 G) dX12_readsCoat_108 ?_
  refine X_iload_n 1 dX12_readsCoat_111 rfl rfl ?_
  refine X_dup2 dX12_readsCoat_112 rfl rfl ?_
  obtain ⟨g10, hm⟩ := og hm
  refine X_ialdJ (g_K148 G) g10 rfl dX12_readsCoat_113 ?_
  refine X_iconst (v := (1 : Int32)) dX12_readsCoat_114 (by decide) ?_
  refine X_iadd dX12_readsCoat_115 ?_
  obtain ⟨g11, hm⟩ := og hm
  refine X_iastJ (g_K148 G) g11 rfl dX12_readsCoat_116 ?_
  replace hm := Option.some.inj hm
  subst hm
  exact X_vret dX12_readsCoat_117 rfl
def mX12_readsCoat_48  (e81 : (Nat → Nat → Int32) → Int32 → Int32 → Option ((Nat → Nat → Int32))) : Nat → (Nat → Nat → Int32) → Int32 → Int32 → Int32 → Option ((Nat → Nat → Int32))
  | 0, _, _, _, _ => none
  | f + 1, I, a1, a2, a3 => (if (5 : Int32) ≤ a3 then (e81 I a1 a2) else (if inb (((5 : Int32) * a1) + a3) 80 = true then (if inb ((((5 : Int32) * a1) + a3) - (1 : Int32)) 80 = true then (mX12_readsCoat_48 e81 f (xu I 149 (ix ((((5 : Int32) * a1) + a3) - (1 : Int32))) (I 149 (ix (((5 : Int32) * a1) + a3)))) a1 a2 (a3 + 1)) else none) else none))
set_option maxHeartbeats 400000 in
set_option maxRecDepth 100000 in
theorem kX12_readsCoat_48 {E : xE} {B : Nat} {n : Nat} {K : Nat → Nat × Nat} {P : Nat → Nat → Nat} {L : Nat → Nat → Int64}  {e81 : (Nat → Nat → Int32) → Int32 → Int32 → Option ((Nat → Nat → Int32))} {q : (Nat → Nat → Int32)} (d : Nat) (hd : 4 ≤ d) (G : GW K P)  (he81 : ∀ (I : Nat → Nat → Int32) (a1 : Int32) (a2 : Int32), e81 I a1 a2 = some q → X E B d 0 0 yX12_readsCoat cX12_readsCoat 4 (none : Option Jvm.ClassFile.FieldType) (none, (n, K, P, q, L)) 81 [(0, .ref 123), (1, .int a1), (2, .int a2)] [] 0 0 (n, K, P, I, L)) : ∀ (f : Nat) (I : Nat → Nat → Int32) (a1 : Int32) (a2 : Int32) (a3 : Int32), mX12_readsCoat_48 e81 f I a1 a2 a3 = some q → X E B d 0 0 yX12_readsCoat cX12_readsCoat 4 (none : Option Jvm.ClassFile.FieldType) (none, (n, K, P, q, L)) 48 [(0, .ref 123), (1, .int a1), (2, .int a2), (3, .int a3)] [] 0 0 (n, K, P, I, L) := by
  obtain ⟨d, rfl⟩ : ∃ d0, d = d0 + 1 := ⟨d - 1, by omega⟩
  intro f
  induction f with
  | zero => intro _ _ _ _ hm; exact nomatch (show (none : Option ((Nat → Nat → Int32))) = some q from hm)
  | succ f ih =>
    intro I a1 a2 a3 hm
    rw [mX12_readsCoat_48] at hm
    refine X_iload_n 3 dX12_readsCoat_48 rfl rfl ?_
    refine X_iconst (v := (5 : Int32)) dX12_readsCoat_49 (by decide) ?_
    refine X_icmp_ge (tgt := 81) dX12_readsCoat_50 (by decide) (fun c12 => ?_) (fun c12 => ?_)
    · replace hm := ip c12 hm
      exact X_lv [0, 1, 2] rfl (he81 _ _ _ hm)
    · replace hm := iq c12 hm
      refine X_aload_n 0 dX12_readsCoat_53 rfl rfl rfl ?_
      refine X_getPe fl_X12_85 (g_K123 G) rfl (g_P123_26 G) dX12_readsCoat_54 ?_
      refine X_iconst (v := (5 : Int32)) dX12_readsCoat_57 (by decide) ?_
      refine X_iload_n 1 dX12_readsCoat_58 rfl rfl ?_
      refine X_imul dX12_readsCoat_59 ?_
      refine X_iload_n 3 dX12_readsCoat_60 rfl rfl ?_
      refine X_iadd dX12_readsCoat_61 ?_
      refine X_iconst (v := (1 : Int32)) dX12_readsCoat_62 (by decide) ?_
      refine X_isub dX12_readsCoat_63 ?_
      refine X_aload_n 0 dX12_readsCoat_64 rfl rfl rfl ?_
      refine X_getPe fl_X12_85 (g_K123 G) rfl (g_P123_26 G) dX12_readsCoat_65 ?_
      refine X_iconst (v := (5 : Int32)) dX12_readsCoat_68 (by decide) ?_
      refine X_iload_n 1 dX12_readsCoat_69 rfl rfl ?_
      refine X_imul dX12_readsCoat_70 ?_
      refine X_iload_n 3 dX12_readsCoat_71 rfl rfl ?_
      refine X_iadd dX12_readsCoat_72 ?_
      obtain ⟨g13, hm⟩ := og hm
      refine X_ialdJ (g_K149 G) g13 rfl dX12_readsCoat_73 ?_
      obtain ⟨g14, hm⟩ := og hm
      refine X_iastJ (g_K149 G) g14 rfl dX12_readsCoat_74 ?_
      refine X_iinc (lv' := [(3, .int (a3 + 1)), (0, .ref 123), (1, .int a1), (2, .int a2)]) 3 dX12_readsCoat_75 rfl rfl (by decide) rfl ?_
      refine X_goto (tgt := 48) dX12_readsCoat_78 (by decide) ?_
      exact X_lv [1, 2, 3, 0] rfl (ih _ _ _ _ hm)
def mX12_readsCoat  (I : Nat → Nat → Int32) : Option ((Nat → Nat → Int32)) := (Option.bind (mX12_amount I (0 : Int32) ((I 141 4) - (1 : Int32))) (fun q1 => (Option.bind (mX12_amount q1.2 (0 : Int32) ((q1.2 141 5) - (1 : Int32))) (fun q3 => (if (q3.2 123 29) ≤ 0 then (if inb q1.1 16 = true then (if (q3.2 148 (ix q1.1)) = (5 : Int32) then (mX12_readsCoat_48 (fun (I_15 : (Nat → Nat → Int32)) (a1_15 : Int32) (a2_15 : Int32) => (if inb a1_15 16 = true then (if inb a1_15 16 = true then (mX12_readsCoat_91 (xu I_15 148 (ix a1_15) ((I_15 148 (ix a1_15)) - (1 : Int32))) a1_15 a2_15) else none) else none)) xf q3.2 q1.1 q3.1 (1 : Int32)) else (mX12_readsCoat_91 q3.2 q1.1 q3.1)) else none) else (some q3.2))))))
set_option maxHeartbeats 400000 in
set_option maxRecDepth 100000 in
theorem kX12_readsCoat {E : xE} {B : Nat} {n : Nat} {K : Nat → Nat × Nat} {P : Nat → Nat → Nat} {I : Nat → Nat → Int32} {L : Nat → Nat → Int64}   {q : (Nat → Nat → Int32)} (d : Nat) (hd : 4 ≤ d) (G : GW K P)   (hm : mX12_readsCoat I = some q) : MX E B d 0 0 yX12_readsCoat cX12_readsCoat 4 (none : Option Jvm.ClassFile.FieldType) [.ref 123] (n, K, P, I, L) (none, (n, K, P, q, L)) := by
  refine MX_of (lv := [(0, .ref 123)]) (by decide +kernel) (Nat.le_of_ble_eq_true rfl) rfl ?_
  obtain ⟨d, rfl⟩ : ∃ d0, d = d0 + 1 := ⟨d - 1, by omega⟩
  unfold mX12_readsCoat at hm
  refine X_aload_n 0 dX12_readsCoat_0 rfl rfl rfl ?_
  refine X_iconst (v := (0 : Int32)) dX12_readsCoat_1 (by decide) ?_
  refine X_aload_n 0 dX12_readsCoat_2 rfl rfl rfl ?_
  refine X_getPe fl_X12_61 (g_K123 G) rfl (g_P123_18 G) dX12_readsCoat_3 ?_
  refine X_iconst (v := (4 : Int32)) dX12_readsCoat_6 (by decide) ?_
  refine X_ialdJ (j := 4) (g_K141 G) rfl (by decide) dX12_readsCoat_7 ?_
  refine X_iconst (v := (1 : Int32)) dX12_readsCoat_8 (by decide) ?_
  refine X_isub dX12_readsCoat_9 ?_
  obtain ⟨q1, e2, hm⟩ := ob hm
  refine X_cV1 (ci := 11) (kX12_amount d (by omega) G e2) ml_X12_303 mi_X12_amount rfl cf_11 (g_K123 G) rfl rfl (Nat.le_refl _) ⟨Nat.le_refl _, Nat.le_refl _⟩ (Nat.le_of_ble_eq_true rfl) dX12_readsCoat_10 ?_
  refine X_istore_n (lv' := [(1, .int q1.1), (0, .ref 123)]) dX12_readsCoat_13 rfl (by decide) rfl ?_
  refine X_aload_n 1 dX12_readsCoat_14 rfl rfl rfl ?_
  refine X_iconst (v := (0 : Int32)) dX12_readsCoat_15 (by decide) ?_
  refine X_aload_n 1 dX12_readsCoat_16 rfl rfl rfl ?_
  refine X_getPe fl_X12_61 (g_K123 G) rfl (g_P123_18 G) dX12_readsCoat_17 ?_
  refine X_iconst (v := (5 : Int32)) dX12_readsCoat_20 (by decide) ?_
  refine X_ialdJ (j := 5) (g_K141 G) rfl (by decide) dX12_readsCoat_21 ?_
  refine X_iconst (v := (1 : Int32)) dX12_readsCoat_22 (by decide) ?_
  refine X_isub dX12_readsCoat_23 ?_
  obtain ⟨q3, e4, hm⟩ := ob hm
  refine X_cV1 (ci := 11) (kX12_amount d (by omega) G e4) ml_X12_303 mi_X12_amount rfl cf_11 (g_K123 G) rfl rfl (Nat.le_refl _) ⟨Nat.le_refl _, Nat.le_refl _⟩ (Nat.le_of_ble_eq_true rfl) dX12_readsCoat_24 ?_
  refine X_istore_n (lv' := [(2, .int q3.1), (1, .int q1.1), (0, .ref 123)]) dX12_readsCoat_27 rfl (by decide) rfl ?_
  refine X_aload_n 2 dX12_readsCoat_28 rfl rfl rfl ?_
  refine X_getI fl_X12_199 (g_K123 G) rfl dX12_readsCoat_29 ?_
  refine X_if_le (tgt := 36) dX12_readsCoat_32 (by decide) (fun c5 => ?_) (fun c5 => ?_)
  · replace hm := ip c5 hm
    refine X_aload_n 2 dX12_readsCoat_36 rfl rfl rfl ?_
    refine X_getPe fl_X12_82 (g_K123 G) rfl (g_P123_25 G) dX12_readsCoat_37 ?_
    refine X_iload_n 1 dX12_readsCoat_40 rfl rfl ?_
    obtain ⟨g6, hm⟩ := og hm
    refine X_ialdJ (g_K148 G) g6 rfl dX12_readsCoat_41 ?_
    refine X_iconst (v := (5 : Int32)) dX12_readsCoat_42 (by decide) ?_
    refine X_icmp_ne (tgt := 91) dX12_readsCoat_43 (by decide) (fun c7 => ?_) (fun c7 => ?_)
    · replace hm := iq c7 hm
      exact X_lv [2, 1, 0] rfl (kX12_readsCoat_91 _ hd G hm)
    · replace hm := ip c7 hm
      refine X_iconst (v := (1 : Int32)) dX12_readsCoat_46 (by decide) ?_
      refine X_istore_n (lv' := [(3, .int (1 : Int32)), (2, .int q3.1), (1, .int q1.1), (0, .ref 123)]) dX12_readsCoat_47 rfl (by decide) rfl ?_
      refine X_lv [3, 2, 1, 0] rfl (kX12_readsCoat_48 _ hd G (fun I_15 a1_15 a2_15 hm => ?_) xf _ _ _ _  hm)
      refine X_aload_n 0 dX12_readsCoat_81 rfl rfl rfl ?_
      refine X_getPe fl_X12_82 (g_K123 G) rfl (g_P123_25 G) dX12_readsCoat_82 ?_
      refine X_iload_n 1 dX12_readsCoat_85 rfl rfl ?_
      refine X_dup2 dX12_readsCoat_86 rfl rfl ?_
      obtain ⟨g16, hm⟩ := og hm
      refine X_ialdJ (g_K148 G) g16 rfl dX12_readsCoat_87 ?_
      refine X_iconst (v := (1 : Int32)) dX12_readsCoat_88 (by decide) ?_
      refine X_isub dX12_readsCoat_89 ?_
      obtain ⟨g17, hm⟩ := og hm
      refine X_iastJ (g_K148 G) g17 rfl dX12_readsCoat_90 ?_
      exact kX12_readsCoat_91 _ hd G hm
  · replace hm := iq c5 hm
    replace hm := Option.some.inj hm
    subst hm
    exact X_vret dX12_readsCoat_35 rfl
def mX12_streetPart  (I : Nat → Nat → Int32) (a1 : Int32) : Option ((Nat → Nat → Int32)) := (if a1 = (0 : Int32) then (Option.bind (mX12_amount I (1 : Int32) (9 : Int32)) (fun q2 => (Option.bind (mX12_amount (xu q2.2 141 0 q2.1) (1 : Int32) (100 : Int32)) (fun q4 => (Option.bind (mX12_amount (xu q4.2 141 1 q4.1) (0 : Int32) (9 : Int32)) (fun q6 => (some (xu q6.2 141 2 q6.1)))))))) else (if a1 = (1 : Int32) then (Option.bind (mX12_readsThing I) (fun q9 => (some q9))) else (if a1 = (2 : Int32) then (Option.bind (mX12_amount I (0 : Int32) (8 : Int32)) (fun q12 => (if inb (I 141 5) 4 = true then (Option.bind (mX12_amount (xu q12.2 144 (ix (I 141 5)) q12.1) (0 : Int32) (99 : Int32)) (fun q15 => (if inb (I 141 5) 4 = true then (some (xu (xu q15.2 145 (ix (I 141 5)) q15.1) 141 5 (((xu q15.2 145 (ix (I 141 5)) q15.1) 141 5) + (1 : Int32)))) else none))) else none))) else (if a1 = (3 : Int32) then (Option.bind (mX12_readsCoat I) (fun q19 => (some q19))) else (if a1 = (4 : Int32) then (Option.bind (mX12_amount I (0 : Int32) ((I 141 3) - (1 : Int32))) (fun q22 => (if (q22.2 123 29) = 0 then (some (xu q22.2 141 8 ((q22.2 141 8) ||| (xshl (1 : Int32) q22.1)))) else (some (xu q22.2 141 8 ((q22.2 141 8) ||| (0 : Int32))))))) else (if a1 = (5 : Int32) then (Option.bind (mX12_amount I (0 : Int32) (199 : Int32)) (fun q26 => (if inb (I 141 7) 5 = true then (if inb (I 141 7) 5 = true then (Option.bind (mX12_amount (xu q26.2 146 (ix (I 141 7)) q26.1) ((xu q26.2 146 (ix (I 141 7)) q26.1) 146 (ix (I 141 7))) (199 : Int32)) (fun q30 => (if inb (I 141 7) 5 = true then (some (xu (xu q30.2 147 (ix (I 141 7)) q30.1) 141 7 (((xu q30.2 147 (ix (I 141 7)) q30.1) 141 7) + (1 : Int32)))) else none))) else none) else none))) else (some (xu I 141 6 (1 : Int32)))))))))
set_option maxHeartbeats 400000 in
set_option maxRecDepth 100000 in
theorem kX12_streetPart {E : xE} {B : Nat} {n : Nat} {K : Nat → Nat × Nat} {P : Nat → Nat → Nat} {I : Nat → Nat → Int32} {L : Nat → Nat → Int64}  {a1 : Int32} {q : (Nat → Nat → Int32)} (d : Nat) (hd : 5 ≤ d) (G : GW K P)   (hm : mX12_streetPart I a1 = some q) : MX E B d 0 0 yX12_streetPart cX12_streetPart 3 (none : Option Jvm.ClassFile.FieldType) [.ref 123, .int a1] (n, K, P, I, L) (none, (n, K, P, q, L)) := by
  refine MX_of (lv := [(0, .ref 123), (1, .int a1)]) (by decide +kernel) (Nat.le_of_ble_eq_true rfl) rfl ?_
  obtain ⟨d, rfl⟩ : ∃ d0, d = d0 + 1 := ⟨d - 1, by omega⟩
  unfold mX12_streetPart at hm
  refine X_iload_n 1 dX12_streetPart_0 rfl rfl ?_
  rcases Decidable.em (a1 = (0 : Int32)) with c1 | c1
  · replace hm := ip c1 hm
    refine X_swK (off := 39) (tgt := 40) c1 dX12_streetPart_1 (by decide) (by decide) (by decide) (by decide) ?_
    refine X_aload_n 0 dX12_streetPart_40 rfl rfl rfl ?_
    refine X_getPe fl_X12_61 (g_K123 G) rfl (g_P123_18 G) dX12_streetPart_41 ?_
    refine X_iconst (v := (0 : Int32)) dX12_streetPart_44 (by decide) ?_
    refine X_aload_n 0 dX12_streetPart_45 rfl rfl rfl ?_
    refine X_iconst (v := (1 : Int32)) dX12_streetPart_46 (by decide) ?_
    refine X_bipush (v := (9 : Int32)) dX12_streetPart_47 (by decide) ?_
    obtain ⟨q2, e3, hm⟩ := ob hm
    refine X_cV1 (ci := 11) (kX12_amount d (by omega) G e3) ml_X12_303 mi_X12_amount rfl cf_11 (g_K123 G) rfl rfl (Nat.le_refl _) ⟨Nat.le_refl _, Nat.le_refl _⟩ (Nat.le_of_ble_eq_true rfl) dX12_streetPart_49 ?_
    refine X_iastJ (j := 0) (g_K141 G) rfl (by decide) dX12_streetPart_52 ?_
    refine X_aload_n 0 dX12_streetPart_53 rfl rfl rfl ?_
    refine X_getPe fl_X12_61 (g_K123 G) rfl (g_P123_18 G) dX12_streetPart_54 ?_
    refine X_iconst (v := (1 : Int32)) dX12_streetPart_57 (by decide) ?_
    refine X_aload_n 0 dX12_streetPart_58 rfl rfl rfl ?_
    refine X_iconst (v := (1 : Int32)) dX12_streetPart_59 (by decide) ?_
    refine X_bipush (v := (100 : Int32)) dX12_streetPart_60 (by decide) ?_
    obtain ⟨q4, e5, hm⟩ := ob hm
    refine X_cV1 (ci := 11) (kX12_amount d (by omega) G e5) ml_X12_303 mi_X12_amount rfl cf_11 (g_K123 G) rfl rfl (Nat.le_refl _) ⟨Nat.le_refl _, Nat.le_refl _⟩ (Nat.le_of_ble_eq_true rfl) dX12_streetPart_62 ?_
    refine X_iastJ (j := 1) (g_K141 G) rfl (by decide) dX12_streetPart_65 ?_
    refine X_aload_n 0 dX12_streetPart_66 rfl rfl rfl ?_
    refine X_getPe fl_X12_61 (g_K123 G) rfl (g_P123_18 G) dX12_streetPart_67 ?_
    refine X_iconst (v := (2 : Int32)) dX12_streetPart_70 (by decide) ?_
    refine X_aload_n 0 dX12_streetPart_71 rfl rfl rfl ?_
    refine X_iconst (v := (0 : Int32)) dX12_streetPart_72 (by decide) ?_
    refine X_bipush (v := (9 : Int32)) dX12_streetPart_73 (by decide) ?_
    obtain ⟨q6, e7, hm⟩ := ob hm
    refine X_cV1 (ci := 11) (kX12_amount d (by omega) G e7) ml_X12_303 mi_X12_amount rfl cf_11 (g_K123 G) rfl rfl (Nat.le_refl _) ⟨Nat.le_refl _, Nat.le_refl _⟩ (Nat.le_of_ble_eq_true rfl) dX12_streetPart_75 ?_
    refine X_iastJ (j := 2) (g_K141 G) rfl (by decide) dX12_streetPart_78 ?_
    refine X_goto (tgt := 246) dX12_streetPart_79 (by decide) ?_
    replace hm := Option.some.inj hm
    subst hm
    exact X_vret dX12_streetPart_246 rfl
  · replace hm := iq c1 hm
    rcases Decidable.em (a1 = (1 : Int32)) with c8 | c8
    · replace hm := ip c8 hm
      refine X_swK (off := 81) (tgt := 82) c8 dX12_streetPart_1 (by decide) (by decide) (by decide) (by decide) ?_
      refine X_aload_n 0 dX12_streetPart_82 rfl rfl rfl ?_
      obtain ⟨q9, e10, hm⟩ := ob hm
      refine X_cV0 (ci := 11) (kX12_readsThing d (by omega) G e10) ml_X12_307 mi_X12_readsThing rfl cf_11 (g_K123 G) rfl rfl (Nat.le_refl _) ⟨Nat.le_refl _, Nat.le_refl _⟩ (Nat.le_of_ble_eq_true rfl) dX12_streetPart_83 ?_
      refine X_goto (tgt := 246) dX12_streetPart_86 (by decide) ?_
      replace hm := Option.some.inj hm
      subst hm
      exact X_vret dX12_streetPart_246 rfl
    · replace hm := iq c8 hm
      rcases Decidable.em (a1 = (2 : Int32)) with c11 | c11
      · replace hm := ip c11 hm
        refine X_swK (off := 88) (tgt := 89) c11 dX12_streetPart_1 (by decide) (by decide) (by decide) (by decide) ?_
        refine X_aload_n 0 dX12_streetPart_89 rfl rfl rfl ?_
        refine X_getPe fl_X12_61 (g_K123 G) rfl (g_P123_18 G) dX12_streetPart_90 ?_
        refine X_iconst (v := (5 : Int32)) dX12_streetPart_93 (by decide) ?_
        refine X_ialdJ (j := 5) (g_K141 G) rfl (by decide) dX12_streetPart_94 ?_
        refine X_istore_n (lv' := [(2, .int (I 141 5)), (0, .ref 123), (1, .int a1)]) dX12_streetPart_95 rfl (by decide) rfl ?_
        refine X_aload_n 1 dX12_streetPart_96 rfl rfl rfl ?_
        refine X_getPe fl_X12_70 (g_K123 G) rfl (g_P123_21 G) dX12_streetPart_97 ?_
        refine X_iload_n 0 dX12_streetPart_100 rfl rfl ?_
        refine X_aload_n 1 dX12_streetPart_101 rfl rfl rfl ?_
        refine X_iconst (v := (0 : Int32)) dX12_streetPart_102 (by decide) ?_
        refine X_bipush (v := (8 : Int32)) dX12_streetPart_103 (by decide) ?_
        obtain ⟨q12, e13, hm⟩ := ob hm
        refine X_cV1 (ci := 11) (kX12_amount d (by omega) G e13) ml_X12_303 mi_X12_amount rfl cf_11 (g_K123 G) rfl rfl (Nat.le_refl _) ⟨Nat.le_refl _, Nat.le_refl _⟩ (Nat.le_of_ble_eq_true rfl) dX12_streetPart_105 ?_
        obtain ⟨g14, hm⟩ := og hm
        refine X_iastJ (g_K144 G) g14 rfl dX12_streetPart_108 ?_
        refine X_aload_n 1 dX12_streetPart_109 rfl rfl rfl ?_
        refine X_getPe fl_X12_73 (g_K123 G) rfl (g_P123_22 G) dX12_streetPart_110 ?_
        refine X_iload_n 0 dX12_streetPart_113 rfl rfl ?_
        refine X_aload_n 1 dX12_streetPart_114 rfl rfl rfl ?_
        refine X_iconst (v := (0 : Int32)) dX12_streetPart_115 (by decide) ?_
        refine X_bipush (v := (99 : Int32)) dX12_streetPart_116 (by decide) ?_
        obtain ⟨q15, e16, hm⟩ := ob hm
        refine X_cV1 (ci := 11) (kX12_amount d (by omega) G e16) ml_X12_303 mi_X12_amount rfl cf_11 (g_K123 G) rfl rfl (Nat.le_refl _) ⟨Nat.le_refl _, Nat.le_refl _⟩ (Nat.le_of_ble_eq_true rfl) dX12_streetPart_118 ?_
        obtain ⟨g17, hm⟩ := og hm
        refine X_iastJ (g_K145 G) g17 rfl dX12_streetPart_121 ?_
        refine X_aload_n 1 dX12_streetPart_122 rfl rfl rfl ?_
        refine X_getPe fl_X12_61 (g_K123 G) rfl (g_P123_18 G) dX12_streetPart_123 ?_
        refine X_iconst (v := (5 : Int32)) dX12_streetPart_126 (by decide) ?_
        refine X_dup2 dX12_streetPart_127 rfl rfl ?_
        refine X_ialdJ (j := 5) (g_K141 G) rfl (by decide) dX12_streetPart_128 ?_
        refine X_iconst (v := (1 : Int32)) dX12_streetPart_129 (by decide) ?_
        refine X_iadd dX12_streetPart_130 ?_
        refine X_iastJ (j := 5) (g_K141 G) rfl (by decide) dX12_streetPart_131 ?_
        refine X_goto (tgt := 246) dX12_streetPart_132 (by decide) ?_
        replace hm := Option.some.inj hm
        subst hm
        exact X_vret dX12_streetPart_246 rfl
      · replace hm := iq c11 hm
        rcases Decidable.em (a1 = (3 : Int32)) with c18 | c18
        · replace hm := ip c18 hm
          refine X_swK (off := 134) (tgt := 135) c18 dX12_streetPart_1 (by decide) (by decide) (by decide) (by decide) ?_
          refine X_aload_n 0 dX12_streetPart_135 rfl rfl rfl ?_
          obtain ⟨q19, e20, hm⟩ := ob hm
          refine X_cV0 (ci := 11) (kX12_readsCoat d (by omega) G e20) ml_X12_310 mi_X12_readsCoat rfl cf_11 (g_K123 G) rfl rfl (Nat.le_refl _) ⟨Nat.le_refl _, Nat.le_refl _⟩ (Nat.le_of_ble_eq_true rfl) dX12_streetPart_136 ?_
          refine X_goto (tgt := 246) dX12_streetPart_139 (by decide) ?_
          replace hm := Option.some.inj hm
          subst hm
          exact X_vret dX12_streetPart_246 rfl
        · replace hm := iq c18 hm
          rcases Decidable.em (a1 = (4 : Int32)) with c21 | c21
          · replace hm := ip c21 hm
            refine X_swK (off := 141) (tgt := 142) c21 dX12_streetPart_1 (by decide) (by decide) (by decide) (by decide) ?_
            refine X_aload_n 0 dX12_streetPart_142 rfl rfl rfl ?_
            refine X_iconst (v := (0 : Int32)) dX12_streetPart_143 (by decide) ?_
            refine X_aload_n 0 dX12_streetPart_144 rfl rfl rfl ?_
            refine X_getPe fl_X12_61 (g_K123 G) rfl (g_P123_18 G) dX12_streetPart_145 ?_
            refine X_iconst (v := (3 : Int32)) dX12_streetPart_148 (by decide) ?_
            refine X_ialdJ (j := 3) (g_K141 G) rfl (by decide) dX12_streetPart_149 ?_
            refine X_iconst (v := (1 : Int32)) dX12_streetPart_150 (by decide) ?_
            refine X_isub dX12_streetPart_151 ?_
            obtain ⟨q22, e23, hm⟩ := ob hm
            refine X_cV1 (ci := 11) (kX12_amount d (by omega) G e23) ml_X12_303 mi_X12_amount rfl cf_11 (g_K123 G) rfl rfl (Nat.le_refl _) ⟨Nat.le_refl _, Nat.le_refl _⟩ (Nat.le_of_ble_eq_true rfl) dX12_streetPart_152 ?_
            refine X_istore_n (lv' := [(2, .int q22.1), (0, .ref 123), (1, .int a1)]) dX12_streetPart_155 rfl (by decide) rfl ?_
            refine X_aload_n 1 dX12_streetPart_156 rfl rfl rfl ?_
            refine X_getPe fl_X12_61 (g_K123 G) rfl (g_P123_18 G) dX12_streetPart_157 ?_
            refine X_bipush (v := (8 : Int32)) dX12_streetPart_160 (by decide) ?_
            refine X_dup2 dX12_streetPart_162 rfl rfl ?_
            refine X_ialdJ (j := 8) (g_K141 G) rfl (by decide) dX12_streetPart_163 ?_
            refine X_aload_n 1 dX12_streetPart_164 rfl rfl rfl ?_
            refine X_getI fl_X12_199 (g_K123 G) rfl dX12_streetPart_165 ?_
            refine X_if_ne (tgt := 177) dX12_streetPart_168 (by decide) (fun c24 => ?_) (fun c24 => ?_)
            · replace hm := iq c24 hm
              refine X_iconst (v := (0 : Int32)) dX12_streetPart_177 (by decide) ?_
              refine X_ior dX12_streetPart_178 ?_
              refine X_iastJ (j := 8) (g_K141 G) rfl (by decide) dX12_streetPart_179 ?_
              refine X_goto (tgt := 246) dX12_streetPart_180 (by decide) ?_
              replace hm := Option.some.inj hm
              subst hm
              exact X_vret dX12_streetPart_246 rfl
            · replace hm := ip c24 hm
              refine X_iconst (v := (1 : Int32)) dX12_streetPart_171 (by decide) ?_
              refine X_iload_n 0 dX12_streetPart_172 rfl rfl ?_
              refine X_ishl dX12_streetPart_173 ?_
              refine X_goto (tgt := 178) dX12_streetPart_174 (by decide) ?_
              refine X_ior dX12_streetPart_178 ?_
              refine X_iastJ (j := 8) (g_K141 G) rfl (by decide) dX12_streetPart_179 ?_
              refine X_goto (tgt := 246) dX12_streetPart_180 (by decide) ?_
              replace hm := Option.some.inj hm
              subst hm
              exact X_vret dX12_streetPart_246 rfl
          · replace hm := iq c21 hm
            rcases Decidable.em (a1 = (5 : Int32)) with c25 | c25
            · replace hm := ip c25 hm
              refine X_swK (off := 182) (tgt := 183) c25 dX12_streetPart_1 (by decide) (by decide) (by decide) (by decide) ?_
              refine X_aload_n 0 dX12_streetPart_183 rfl rfl rfl ?_
              refine X_getPe fl_X12_61 (g_K123 G) rfl (g_P123_18 G) dX12_streetPart_184 ?_
              refine X_bipush (v := (7 : Int32)) dX12_streetPart_187 (by decide) ?_
              refine X_ialdJ (j := 7) (g_K141 G) rfl (by decide) dX12_streetPart_189 ?_
              refine X_istore_n (lv' := [(2, .int (I 141 7)), (0, .ref 123), (1, .int a1)]) dX12_streetPart_190 rfl (by decide) rfl ?_
              refine X_aload_n 1 dX12_streetPart_191 rfl rfl rfl ?_
              refine X_getPe fl_X12_76 (g_K123 G) rfl (g_P123_23 G) dX12_streetPart_192 ?_
              refine X_iload_n 0 dX12_streetPart_195 rfl rfl ?_
              refine X_aload_n 1 dX12_streetPart_196 rfl rfl rfl ?_
              refine X_iconst (v := (0 : Int32)) dX12_streetPart_197 (by decide) ?_
              refine X_sipush (v := (199 : Int32)) dX12_streetPart_198 (by decide) ?_
              obtain ⟨q26, e27, hm⟩ := ob hm
              refine X_cV1 (ci := 11) (kX12_amount d (by omega) G e27) ml_X12_303 mi_X12_amount rfl cf_11 (g_K123 G) rfl rfl (Nat.le_refl _) ⟨Nat.le_refl _, Nat.le_refl _⟩ (Nat.le_of_ble_eq_true rfl) dX12_streetPart_201 ?_
              obtain ⟨g28, hm⟩ := og hm
              refine X_iastJ (g_K146 G) g28 rfl dX12_streetPart_204 ?_
              refine X_aload_n 1 dX12_streetPart_205 rfl rfl rfl ?_
              refine X_getPe fl_X12_79 (g_K123 G) rfl (g_P123_24 G) dX12_streetPart_206 ?_
              refine X_iload_n 0 dX12_streetPart_209 rfl rfl ?_
              refine X_aload_n 1 dX12_streetPart_210 rfl rfl rfl ?_
              refine X_aload_n 1 dX12_streetPart_211 rfl rfl rfl ?_
              refine X_getPe fl_X12_76 (g_K123 G) rfl (g_P123_23 G) dX12_streetPart_212 ?_
              refine X_iload_n 0 dX12_streetPart_215 rfl rfl ?_
              obtain ⟨g29, hm⟩ := og hm
              refine X_ialdJ (g_K146 G) g29 rfl dX12_streetPart_216 ?_
              refine X_sipush (v := (199 : Int32)) dX12_streetPart_217 (by decide) ?_
              obtain ⟨q30, e31, hm⟩ := ob hm
              refine X_cV1 (ci := 11) (kX12_amount d (by omega) G e31) ml_X12_303 mi_X12_amount rfl cf_11 (g_K123 G) rfl rfl (Nat.le_refl _) ⟨Nat.le_refl _, Nat.le_refl _⟩ (Nat.le_of_ble_eq_true rfl) dX12_streetPart_220 ?_
              obtain ⟨g32, hm⟩ := og hm
              refine X_iastJ (g_K147 G) g32 rfl dX12_streetPart_223 ?_
              refine X_aload_n 1 dX12_streetPart_224 rfl rfl rfl ?_
              refine X_getPe fl_X12_61 (g_K123 G) rfl (g_P123_18 G) dX12_streetPart_225 ?_
              refine X_bipush (v := (7 : Int32)) dX12_streetPart_228 (by decide) ?_
              refine X_dup2 dX12_streetPart_230 rfl rfl ?_
              refine X_ialdJ (j := 7) (g_K141 G) rfl (by decide) dX12_streetPart_231 ?_
              refine X_iconst (v := (1 : Int32)) dX12_streetPart_232 (by decide) ?_
              refine X_iadd dX12_streetPart_233 ?_
              refine X_iastJ (j := 7) (g_K141 G) rfl (by decide) dX12_streetPart_234 ?_
              refine X_goto (tgt := 246) dX12_streetPart_235 (by decide) ?_
              replace hm := Option.some.inj hm
              subst hm
              exact X_vret dX12_streetPart_246 rfl
            · replace hm := iq c25 hm
              refine X_tableOut (tgt := 238) dX12_streetPart_1 (sw_out 6 (by decide) (fun i hi => by
                have hi2 : i = 0 ∨ i = 1 ∨ i = 2 ∨ i = 3 ∨ i = 4 ∨ i = 5 := by omega
                rcases hi2 with rfl | rfl | rfl | rfl | rfl | rfl
                · exact c1
                · exact c8
                · exact c11
                · exact c18
                · exact c21
                · exact c25)) (by decide) ?_
              refine X_aload_n 0 dX12_streetPart_238 rfl rfl rfl ?_
              refine X_getPe fl_X12_61 (g_K123 G) rfl (g_P123_18 G) dX12_streetPart_239 ?_
              refine X_bipush (v := (6 : Int32)) dX12_streetPart_242 (by decide) ?_
              refine X_iconst (v := (1 : Int32)) dX12_streetPart_244 (by decide) ?_
              refine X_iastJ (j := 6) (g_K141 G) rfl (by decide) dX12_streetPart_245 ?_
              replace hm := Option.some.inj hm
              subst hm
              exact X_vret dX12_streetPart_246 rfl
def mX12_isFull_24 (I : Nat → Nat → Int32) (a1 : Int32) (t0 : Int32) (t1 : Int32) : Option (Int32) := (if t1 = t0 then (if a1 = (1 : Int32) then (if (I 141 3) = (4 : Int32) then (some (1 : Int32)) else (some (0 : Int32))) else (if a1 = (2 : Int32) then (if (I 141 5) = (4 : Int32) then (some (1 : Int32)) else (some (0 : Int32))) else (if a1 = (3 : Int32) then (some (0 : Int32)) else (if a1 = (4 : Int32) then (some (0 : Int32)) else (if a1 = (5 : Int32) then (if (I 141 7) = (5 : Int32) then (some (1 : Int32)) else (some (0 : Int32))) else (if a1 = (6 : Int32) then (if (I 141 6) = (1 : Int32) then (some (1 : Int32)) else (some (0 : Int32))) else (some (0 : Int32)))))))) else (some (1 : Int32)))
set_option maxHeartbeats 400000 in
set_option maxRecDepth 100000 in
theorem kX12_isFull_24 {E : xE} {B : Nat} {n : Nat} {K : Nat → Nat × Nat} {P : Nat → Nat → Nat} {I : Nat → Nat → Int32} {L : Nat → Nat → Int64}   {a1 : Int32} {t0 : Int32} {t1 : Int32} {q : Int32} (d : Nat) (hd : 0 ≤ d) (G : GW K P)    (hm : mX12_isFull_24 I a1 t0 t1 = some q) : X E B d 0 0 yX12_isFull cX12_isFull 3 (some .boolean) (some (.int q), (n, K, P, I, L)) 24 [(0, .ref 123), (1, .int a1)] [.int t0, .int t1] 0 0 (n, K, P, I, L) := by
  unfold mX12_isFull_24 at hm
  refine X_icmp_eq (tgt := 29) dX12_isFull_24 (by decide) (fun c4 => ?_) (fun c4 => ?_)
  · replace hm := ip c4 hm
    refine X_iload_n 1 dX12_isFull_29 rfl rfl ?_
    rcases Decidable.em (a1 = (1 : Int32)) with c5 | c5
    · replace hm := ip c5 hm
      refine X_swK (off := 38) (tgt := 68) c5 dX12_isFull_30 (by decide) (by decide) (by decide) (by decide) ?_
      refine X_aload_n 0 dX12_isFull_68 rfl rfl rfl ?_
      refine X_getPe fl_X12_61 (g_K123 G) rfl (g_P123_18 G) dX12_isFull_69 ?_
      refine X_iconst (v := (3 : Int32)) dX12_isFull_72 (by decide) ?_
      refine X_ialdJ (j := 3) (g_K141 G) rfl (by decide) dX12_isFull_73 ?_
      refine X_iconst (v := (4 : Int32)) dX12_isFull_74 (by decide) ?_
      refine X_icmp_ne (tgt := 82) dX12_isFull_75 (by decide) (fun c6 => ?_) (fun c6 => ?_)
      · replace hm := iq c6 hm
        refine X_iconst (v := (0 : Int32)) dX12_isFull_82 (by decide) ?_
        replace hm := Option.some.inj hm
        subst hm
        exact X_zret (v := (0 : Int32)) dX12_isFull_83 rfl (x_nz (Or.inl rfl))
      · replace hm := ip c6 hm
        refine X_iconst (v := (1 : Int32)) dX12_isFull_78 (by decide) ?_
        refine X_goto (tgt := 83) dX12_isFull_79 (by decide) ?_
        replace hm := Option.some.inj hm
        subst hm
        exact X_zret (v := (1 : Int32)) dX12_isFull_83 rfl (x_nz (Or.inr rfl))
    · replace hm := iq c5 hm
      rcases Decidable.em (a1 = (2 : Int32)) with c7 | c7
      · replace hm := ip c7 hm
        refine X_swK (off := 54) (tgt := 84) c7 dX12_isFull_30 (by decide) (by decide) (by decide) (by decide) ?_
        refine X_aload_n 0 dX12_isFull_84 rfl rfl rfl ?_
        refine X_getPe fl_X12_61 (g_K123 G) rfl (g_P123_18 G) dX12_isFull_85 ?_
        refine X_iconst (v := (5 : Int32)) dX12_isFull_88 (by decide) ?_
        refine X_ialdJ (j := 5) (g_K141 G) rfl (by decide) dX12_isFull_89 ?_
        refine X_iconst (v := (4 : Int32)) dX12_isFull_90 (by decide) ?_
        refine X_icmp_ne (tgt := 98) dX12_isFull_91 (by decide) (fun c8 => ?_) (fun c8 => ?_)
        · replace hm := iq c8 hm
          refine X_iconst (v := (0 : Int32)) dX12_isFull_98 (by decide) ?_
          replace hm := Option.some.inj hm
          subst hm
          exact X_zret (v := (0 : Int32)) dX12_isFull_99 rfl (x_nz (Or.inl rfl))
        · replace hm := ip c8 hm
          refine X_iconst (v := (1 : Int32)) dX12_isFull_94 (by decide) ?_
          refine X_goto (tgt := 99) dX12_isFull_95 (by decide) ?_
          replace hm := Option.some.inj hm
          subst hm
          exact X_zret (v := (1 : Int32)) dX12_isFull_99 rfl (x_nz (Or.inr rfl))
      · replace hm := iq c7 hm
        rcases Decidable.em (a1 = (3 : Int32)) with c9 | c9
        · replace hm := ip c9 hm
          refine X_swK (off := 104) (tgt := 134) c9 dX12_isFull_30 (by decide) (by decide) (by decide) (by decide) ?_
          refine X_iconst (v := (0 : Int32)) dX12_isFull_134 (by decide) ?_
          replace hm := Option.some.inj hm
          subst hm
          exact X_zret (v := (0 : Int32)) dX12_isFull_135 rfl (x_nz (Or.inl rfl))
        · replace hm := iq c9 hm
          rcases Decidable.em (a1 = (4 : Int32)) with c10 | c10
          · replace hm := ip c10 hm
            refine X_swK (off := 104) (tgt := 134) c10 dX12_isFull_30 (by decide) (by decide) (by decide) (by decide) ?_
            refine X_iconst (v := (0 : Int32)) dX12_isFull_134 (by decide) ?_
            replace hm := Option.some.inj hm
            subst hm
            exact X_zret (v := (0 : Int32)) dX12_isFull_135 rfl (x_nz (Or.inl rfl))
          · replace hm := iq c10 hm
            rcases Decidable.em (a1 = (5 : Int32)) with c11 | c11
            · replace hm := ip c11 hm
              refine X_swK (off := 70) (tgt := 100) c11 dX12_isFull_30 (by decide) (by decide) (by decide) (by decide) ?_
              refine X_aload_n 0 dX12_isFull_100 rfl rfl rfl ?_
              refine X_getPe fl_X12_61 (g_K123 G) rfl (g_P123_18 G) dX12_isFull_101 ?_
              refine X_bipush (v := (7 : Int32)) dX12_isFull_104 (by decide) ?_
              refine X_ialdJ (j := 7) (g_K141 G) rfl (by decide) dX12_isFull_106 ?_
              refine X_iconst (v := (5 : Int32)) dX12_isFull_107 (by decide) ?_
              refine X_icmp_ne (tgt := 115) dX12_isFull_108 (by decide) (fun c12 => ?_) (fun c12 => ?_)
              · replace hm := iq c12 hm
                refine X_iconst (v := (0 : Int32)) dX12_isFull_115 (by decide) ?_
                replace hm := Option.some.inj hm
                subst hm
                exact X_zret (v := (0 : Int32)) dX12_isFull_116 rfl (x_nz (Or.inl rfl))
              · replace hm := ip c12 hm
                refine X_iconst (v := (1 : Int32)) dX12_isFull_111 (by decide) ?_
                refine X_goto (tgt := 116) dX12_isFull_112 (by decide) ?_
                replace hm := Option.some.inj hm
                subst hm
                exact X_zret (v := (1 : Int32)) dX12_isFull_116 rfl (x_nz (Or.inr rfl))
            · replace hm := iq c11 hm
              rcases Decidable.em (a1 = (6 : Int32)) with c13 | c13
              · replace hm := ip c13 hm
                refine X_swK (off := 87) (tgt := 117) c13 dX12_isFull_30 (by decide) (by decide) (by decide) (by decide) ?_
                refine X_aload_n 0 dX12_isFull_117 rfl rfl rfl ?_
                refine X_getPe fl_X12_61 (g_K123 G) rfl (g_P123_18 G) dX12_isFull_118 ?_
                refine X_bipush (v := (6 : Int32)) dX12_isFull_121 (by decide) ?_
                refine X_ialdJ (j := 6) (g_K141 G) rfl (by decide) dX12_isFull_123 ?_
                refine X_iconst (v := (1 : Int32)) dX12_isFull_124 (by decide) ?_
                refine X_icmp_ne (tgt := 132) dX12_isFull_125 (by decide) (fun c14 => ?_) (fun c14 => ?_)
                · replace hm := iq c14 hm
                  refine X_iconst (v := (0 : Int32)) dX12_isFull_132 (by decide) ?_
                  replace hm := Option.some.inj hm
                  subst hm
                  exact X_zret (v := (0 : Int32)) dX12_isFull_133 rfl (x_nz (Or.inl rfl))
                · replace hm := ip c14 hm
                  refine X_iconst (v := (1 : Int32)) dX12_isFull_128 (by decide) ?_
                  refine X_goto (tgt := 133) dX12_isFull_129 (by decide) ?_
                  replace hm := Option.some.inj hm
                  subst hm
                  exact X_zret (v := (1 : Int32)) dX12_isFull_133 rfl (x_nz (Or.inr rfl))
              · replace hm := iq c13 hm
                refine X_tableOut (tgt := 134) dX12_isFull_30 (sw_out 6 (by decide) (fun i hi => by
                  have hi2 : i = 0 ∨ i = 1 ∨ i = 2 ∨ i = 3 ∨ i = 4 ∨ i = 5 := by omega
                  rcases hi2 with rfl | rfl | rfl | rfl | rfl | rfl
                  · exact c5
                  · exact c7
                  · exact c9
                  · exact c10
                  · exact c11
                  · exact c13)) (by decide) ?_
                refine X_iconst (v := (0 : Int32)) dX12_isFull_134 (by decide) ?_
                replace hm := Option.some.inj hm
                subst hm
                exact X_zret (v := (0 : Int32)) dX12_isFull_135 rfl (x_nz (Or.inl rfl))
  · replace hm := iq c4 hm
    refine X_iconst (v := (1 : Int32)) dX12_isFull_27 (by decide) ?_
    replace hm := Option.some.inj hm
    subst hm
    exact X_zret (v := (1 : Int32)) dX12_isFull_28 rfl (x_nz (Or.inr rfl))
def mX12_isFull_15 (I : Nat → Nat → Int32) (a1 : Int32) (a2 : Int32) (t0 : Int32) : Option (Int32) := (if a2 = 0 then (mX12_isFull_24 I a1 (1 : Int32) t0) else (mX12_isFull_24 I a1 (0 : Int32) t0))
set_option maxHeartbeats 400000 in
set_option maxRecDepth 100000 in
theorem kX12_isFull_15 {E : xE} {B : Nat} {n : Nat} {K : Nat → Nat × Nat} {P : Nat → Nat → Nat} {I : Nat → Nat → Int32} {L : Nat → Nat → Int64}   {a1 : Int32} {a2 : Int32} {t0 : Int32} {q : Int32} (d : Nat) (hd : 0 ≤ d) (G : GW K P)    (hm : mX12_isFull_15 I a1 a2 t0 = some q) : X E B d 0 0 yX12_isFull cX12_isFull 3 (some .boolean) (some (.int q), (n, K, P, I, L)) 15 [(0, .ref 123), (1, .int a1), (2, .int a2)] [.int t0] 0 0 (n, K, P, I, L) := by
  unfold mX12_isFull_15 at hm
  refine X_iload_n 2 dX12_isFull_15 rfl rfl ?_
  refine X_if_ne (tgt := 23) dX12_isFull_16 (by decide) (fun c3 => ?_) (fun c3 => ?_)
  · replace hm := iq c3 hm
    refine X_iconst (v := (0 : Int32)) dX12_isFull_23 (by decide) ?_
    exact X_lv [0, 1] rfl (kX12_isFull_24 _ hd G hm)
  · replace hm := ip c3 hm
    refine X_iconst (v := (1 : Int32)) dX12_isFull_19 (by decide) ?_
    refine X_goto (tgt := 24) dX12_isFull_20 (by decide) ?_
    exact X_lv [0, 1] rfl (kX12_isFull_24 _ hd G hm)
def mX12_isFull (I : Nat → Nat → Int32) (a1 : Int32) (a2 : Int32) : Option (Int32) := (if a2 = (40 : Int32) then (some (1 : Int32)) else (if a1 = 0 then (mX12_isFull_15 I a1 a2 (1 : Int32)) else (mX12_isFull_15 I a1 a2 (0 : Int32))))
set_option maxHeartbeats 400000 in
set_option maxRecDepth 100000 in
theorem kX12_isFull {E : xE} {B : Nat} {n : Nat} {K : Nat → Nat × Nat} {P : Nat → Nat → Nat} {I : Nat → Nat → Int32} {L : Nat → Nat → Int64}  {a1 : Int32} {a2 : Int32} {q : Int32} (d : Nat) (hd : 0 ≤ d) (G : GW K P)   (hm : mX12_isFull I a1 a2 = some q) : MX E B d 0 0 yX12_isFull cX12_isFull 3 (some .boolean) [.ref 123, .int a1, .int a2] (n, K, P, I, L) (some (.int q), (n, K, P, I, L)) := by
  refine MX_of (lv := [(0, .ref 123), (1, .int a1), (2, .int a2)]) (by decide +kernel) (Nat.le_of_ble_eq_true rfl) rfl ?_
  unfold mX12_isFull at hm
  refine X_iload_n 2 dX12_isFull_0 rfl rfl ?_
  refine X_bipush (v := (40 : Int32)) dX12_isFull_1 (by decide) ?_
  refine X_icmp_eq (tgt := 27) dX12_isFull_3 (by decide) (fun c1 => ?_) (fun c1 => ?_)
  · replace hm := ip c1 hm
    refine X_iconst (v := (1 : Int32)) dX12_isFull_27 (by decide) ?_
    replace hm := Option.some.inj hm
    subst hm
    exact X_zret (v := (1 : Int32)) dX12_isFull_28 rfl (x_nz (Or.inr rfl))
  · replace hm := iq c1 hm
    refine X_iload_n 1 dX12_isFull_6 rfl rfl ?_
    refine X_if_ne (tgt := 14) dX12_isFull_7 (by decide) (fun c2 => ?_) (fun c2 => ?_)
    · replace hm := iq c2 hm
      refine X_iconst (v := (0 : Int32)) dX12_isFull_14 (by decide) ?_
      exact kX12_isFull_15 _ hd G hm
    · replace hm := ip c2 hm
      refine X_iconst (v := (1 : Int32)) dX12_isFull_10 (by decide) ?_
      refine X_goto (tgt := 15) dX12_isFull_11 (by decide) ?_
      exact kX12_isFull_15 _ hd G hm

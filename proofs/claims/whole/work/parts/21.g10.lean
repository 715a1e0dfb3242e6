def mX12_then  (I : Nat → Nat → Int32) (a1 : Int32) (a2 : Int32) : Option (Int32 × (Nat → Nat → Int32)) := (Option.bind (mX12_isThing I a1) (fun q1 => (if q1 = 0 then (some ((-2 : Int32), I)) else (Option.bind (mX12_in a2.toInt64 (0 : Int64) (I 124 9).toInt64) (fun q4 => (if q4 = 0 then (some ((-2 : Int32), I)) else (Option.bind (mX12_isBare I a1) (fun q7 => (if q7 = 0 then (Option.bind (mX12_countsCells I a1 a2 (1 : Int32)) (fun q10 => (Option.bind (mX12_cellsIn q10 a1) (fun q12 => (Option.bind (mX12_ownerByCells q10 q12 (q10 124 1)) (fun q14 => (some (q14, q10)))))))) else (some ((-1 : Int32), I)))))))))))
set_option maxHeartbeats 400000 in
set_option maxRecDepth 100000 in
theorem kX12_then {E : xE} {B : Nat} {n : Nat} {K : Nat → Nat × Nat} {P : Nat → Nat → Nat} {I : Nat → Nat → Int32} {L : Nat → Nat → Int64}  {a1 : Int32} {a2 : Int32} {q : Int32 × (Nat → Nat → Int32)} (d : Nat) (hd : 3 ≤ d) (G : GW K P)   (hm : mX12_then I a1 a2 = some q) : MX E B d 0 0 yX12_then cX12_then 3 (some .int) [.ref 123, .int a1, .int a2] (n, K, P, I, L) (some (.int q.1), (n, K, P, q.2, L)) := by
  refine MX_of (lv := [(0, .ref 123), (1, .int a1), (2, .int a2)]) (by decide +kernel) (Nat.le_of_ble_eq_true rfl) rfl ?_
  obtain ⟨d, rfl⟩ : ∃ d0, d = d0 + 1 := ⟨d - 1, by omega⟩
  unfold mX12_then at hm
  refine X_aload_n 0 dX12_then_0 rfl rfl rfl ?_
  refine X_iload_n 1 dX12_then_1 rfl rfl ?_
  obtain ⟨q1, e2, hm⟩ := ob hm
  refine X_cV1 (ci := 11) (kX12_isThing d (by omega) G e2) ml_X12_417 mi_X12_isThing rfl cf_11 (g_K123 G) rfl rfl (Nat.le_refl _) ⟨Nat.le_refl _, Nat.le_refl _⟩ (Nat.le_of_ble_eq_true rfl) dX12_then_2 ?_
  refine X_if_eq (tgt := 25) dX12_then_5 (by decide) (fun c3 => ?_) (fun c3 => ?_)
  · replace hm := ip c3 hm
    refine X_bipush (v := (-2 : Int32)) dX12_then_25 (by decide) ?_
    replace hm := Option.some.inj hm
    subst hm
    exact X_iret dX12_then_27 rfl
  · replace hm := iq c3 hm
    refine X_iload_n 2 dX12_then_8 rfl rfl ?_
    refine X_i2l dX12_then_9 ?_
    refine X_lconst (v := (0 : Int64)) dX12_then_10 (by decide) ?_
    refine X_aload_n 0 dX12_then_11 rfl rfl rfl ?_
    refine X_getPe fl_X12_9 (g_K123 G) rfl (g_P123_1 G) dX12_then_12 ?_
    refine X_bipush (v := (9 : Int32)) dX12_then_15 (by decide) ?_
    refine X_ialdJ (j := 9) (g_K124 G) rfl (by decide) dX12_then_17 ?_
    refine X_i2l dX12_then_18 ?_
    obtain ⟨q4, e5, hm⟩ := ob hm
    refine X_cS1 (kX12_in d (by omega) G e5) ml_X12_164 ms_X12_in rfl rfl (Nat.le_refl _) ⟨Nat.le_refl _, Nat.le_refl _⟩ (Nat.le_of_ble_eq_true rfl) dX12_then_19 ?_
    refine X_if_ne (tgt := 28) dX12_then_22 (by decide) (fun c6 => ?_) (fun c6 => ?_)
    · replace hm := iq c6 hm
      refine X_aload_n 0 dX12_then_28 rfl rfl rfl ?_
      refine X_iload_n 1 dX12_then_29 rfl rfl ?_
      obtain ⟨q7, e8, hm⟩ := ob hm
      refine X_cV1 (ci := 11) (kX12_isBare d (by omega) G e8) ml_X12_336 mi_X12_isBare rfl cf_11 (g_K123 G) rfl rfl (Nat.le_refl _) ⟨Nat.le_refl _, Nat.le_refl _⟩ (Nat.le_of_ble_eq_true rfl) dX12_then_30 ?_
      refine X_if_eq (tgt := 38) dX12_then_33 (by decide) (fun c9 => ?_) (fun c9 => ?_)
      · replace hm := ip c9 hm
        refine X_aload_n 0 dX12_then_38 rfl rfl rfl ?_
        refine X_iload_n 1 dX12_then_39 rfl rfl ?_
        refine X_iload_n 2 dX12_then_40 rfl rfl ?_
        refine X_iconst (v := (1 : Int32)) dX12_then_41 (by decide) ?_
        obtain ⟨q10, e11, hm⟩ := ob hm
        refine X_cV0 (ci := 11) (kX12_countsCells d (by omega) G e11) ml_X12_392 mi_X12_countsCells rfl cf_11 (g_K123 G) rfl rfl (Nat.le_refl _) ⟨Nat.le_refl _, Nat.le_refl _⟩ (Nat.le_of_ble_eq_true rfl) dX12_then_42 ?_
        refine X_aload_n 0 dX12_then_45 rfl rfl rfl ?_
        refine X_aload_n 0 dX12_then_46 rfl rfl rfl ?_
        refine X_iload_n 1 dX12_then_47 rfl rfl ?_
        obtain ⟨q12, e13, hm⟩ := ob hm
        refine X_cV1 (ci := 11) (kX12_cellsIn d (by omega) G e13) ml_X12_396 mi_X12_cellsIn rfl cf_11 (g_K123 G) rfl rfl (Nat.le_refl _) ⟨Nat.le_refl _, Nat.le_refl _⟩ (Nat.le_of_ble_eq_true rfl) dX12_then_48 ?_
        refine X_aload_n 0 dX12_then_51 rfl rfl rfl ?_
        refine X_getPe fl_X12_9 (g_K123 G) rfl (g_P123_1 G) dX12_then_52 ?_
        refine X_iconst (v := (1 : Int32)) dX12_then_55 (by decide) ?_
        refine X_ialdJ (j := 1) (g_K124 G) rfl (by decide) dX12_then_56 ?_
        obtain ⟨q14, e15, hm⟩ := ob hm
        refine X_cV1 (ci := 11) (kX12_ownerByCells d (by omega) G e15) ml_X12_399 mi_X12_ownerByCells rfl cf_11 (g_K123 G) rfl rfl (Nat.le_refl _) ⟨Nat.le_refl _, Nat.le_refl _⟩ (Nat.le_of_ble_eq_true rfl) dX12_then_57 ?_
        replace hm := Option.some.inj hm
        subst hm
        exact X_iret dX12_then_60 rfl
      · replace hm := iq c9 hm
        refine X_iconst (v := (-1 : Int32)) dX12_then_36 (by decide) ?_
        replace hm := Option.some.inj hm
        subst hm
        exact X_iret dX12_then_37 rfl
    · replace hm := ip c6 hm
      refine X_bipush (v := (-2 : Int32)) dX12_then_25 (by decide) ?_
      replace hm := Option.some.inj hm
      subst hm
      exact X_iret dX12_then_27 rfl
def mX12_byPart  (I : Nat → Nat → Int32) (a1 : Int32) (a2 : Int32) : Option (Int32 × (Nat → Nat → Int32)) := (Option.bind (mX12_isThing I a1) (fun q1 => (if q1 = 0 then (some ((-2 : Int32), I)) else (Option.bind (mX12_in a2.toInt64 (1 : Int64) (100 : Int64)) (fun q4 => (if q4 = 0 then (some ((-2 : Int32), I)) else (Option.bind (mX12_isBare I a1) (fun q7 => (if q7 = 0 then (Option.bind (mX12_countsCells I a1 (I 124 9) (0 : Int32)) (fun q10 => (Option.bind (mX12_cellsIn q10 a1) (fun q12 => (Option.bind (mX12_ownerByCells q10 q12 a2) (fun q14 => (some (q14, q10)))))))) else (some ((-1 : Int32), I)))))))))))
set_option maxHeartbeats 400000 in
set_option maxRecDepth 100000 in
theorem kX12_byPart {E : xE} {B : Nat} {n : Nat} {K : Nat → Nat × Nat} {P : Nat → Nat → Nat} {I : Nat → Nat → Int32} {L : Nat → Nat → Int64}  {a1 : Int32} {a2 : Int32} {q : Int32 × (Nat → Nat → Int32)} (d : Nat) (hd : 3 ≤ d) (G : GW K P)   (hm : mX12_byPart I a1 a2 = some q) : MX E B d 0 0 yX12_byPart cX12_byPart 3 (some .int) [.ref 123, .int a1, .int a2] (n, K, P, I, L) (some (.int q.1), (n, K, P, q.2, L)) := by
  refine MX_of (lv := [(0, .ref 123), (1, .int a1), (2, .int a2)]) (by decide +kernel) (Nat.le_of_ble_eq_true rfl) rfl ?_
  obtain ⟨d, rfl⟩ : ∃ d0, d = d0 + 1 := ⟨d - 1, by omega⟩
  unfold mX12_byPart at hm
  refine X_aload_n 0 dX12_byPart_0 rfl rfl rfl ?_
  refine X_iload_n 1 dX12_byPart_1 rfl rfl ?_
  obtain ⟨q1, e2, hm⟩ := ob hm
  refine X_cV1 (ci := 11) (kX12_isThing d (by omega) G e2) ml_X12_417 mi_X12_isThing rfl cf_11 (g_K123 G) rfl rfl (Nat.le_refl _) ⟨Nat.le_refl _, Nat.le_refl _⟩ (Nat.le_of_ble_eq_true rfl) dX12_byPart_2 ?_
  refine X_if_eq (tgt := 20) dX12_byPart_5 (by decide) (fun c3 => ?_) (fun c3 => ?_)
  · replace hm := ip c3 hm
    refine X_bipush (v := (-2 : Int32)) dX12_byPart_20 (by decide) ?_
    replace hm := Option.some.inj hm
    subst hm
    exact X_iret dX12_byPart_22 rfl
  · replace hm := iq c3 hm
    refine X_iload_n 2 dX12_byPart_8 rfl rfl ?_
    refine X_i2l dX12_byPart_9 ?_
    refine X_lconst (v := (1 : Int64)) dX12_byPart_10 (by decide) ?_
    refine X_ldc2 lc_X12_489 dX12_byPart_11 ?_
    obtain ⟨q4, e5, hm⟩ := ob hm
    refine X_cS1 (kX12_in d (by omega) G e5) ml_X12_164 ms_X12_in rfl rfl (Nat.le_refl _) ⟨Nat.le_refl _, Nat.le_refl _⟩ (Nat.le_of_ble_eq_true rfl) dX12_byPart_14 ?_
    refine X_if_ne (tgt := 23) dX12_byPart_17 (by decide) (fun c6 => ?_) (fun c6 => ?_)
    · replace hm := iq c6 hm
      refine X_aload_n 0 dX12_byPart_23 rfl rfl rfl ?_
      refine X_iload_n 1 dX12_byPart_24 rfl rfl ?_
      obtain ⟨q7, e8, hm⟩ := ob hm
      refine X_cV1 (ci := 11) (kX12_isBare d (by omega) G e8) ml_X12_336 mi_X12_isBare rfl cf_11 (g_K123 G) rfl rfl (Nat.le_refl _) ⟨Nat.le_refl _, Nat.le_refl _⟩ (Nat.le_of_ble_eq_true rfl) dX12_byPart_25 ?_
      refine X_if_eq (tgt := 33) dX12_byPart_28 (by decide) (fun c9 => ?_) (fun c9 => ?_)
      · replace hm := ip c9 hm
        refine X_aload_n 0 dX12_byPart_33 rfl rfl rfl ?_
        refine X_iload_n 1 dX12_byPart_34 rfl rfl ?_
        refine X_aload_n 0 dX12_byPart_35 rfl rfl rfl ?_
        refine X_getPe fl_X12_9 (g_K123 G) rfl (g_P123_1 G) dX12_byPart_36 ?_
        refine X_bipush (v := (9 : Int32)) dX12_byPart_39 (by decide) ?_
        refine X_ialdJ (j := 9) (g_K124 G) rfl (by decide) dX12_byPart_41 ?_
        refine X_iconst (v := (0 : Int32)) dX12_byPart_42 (by decide) ?_
        obtain ⟨q10, e11, hm⟩ := ob hm
        refine X_cV0 (ci := 11) (kX12_countsCells d (by omega) G e11) ml_X12_392 mi_X12_countsCells rfl cf_11 (g_K123 G) rfl rfl (Nat.le_refl _) ⟨Nat.le_refl _, Nat.le_refl _⟩ (Nat.le_of_ble_eq_true rfl) dX12_byPart_43 ?_
        refine X_aload_n 0 dX12_byPart_46 rfl rfl rfl ?_
        refine X_aload_n 0 dX12_byPart_47 rfl rfl rfl ?_
        refine X_iload_n 1 dX12_byPart_48 rfl rfl ?_
        obtain ⟨q12, e13, hm⟩ := ob hm
        refine X_cV1 (ci := 11) (kX12_cellsIn d (by omega) G e13) ml_X12_396 mi_X12_cellsIn rfl cf_11 (g_K123 G) rfl rfl (Nat.le_refl _) ⟨Nat.le_refl _, Nat.le_refl _⟩ (Nat.le_of_ble_eq_true rfl) dX12_byPart_49 ?_
        refine X_iload_n 2 dX12_byPart_52 rfl rfl ?_
        obtain ⟨q14, e15, hm⟩ := ob hm
        refine X_cV1 (ci := 11) (kX12_ownerByCells d (by omega) G e15) ml_X12_399 mi_X12_ownerByCells rfl cf_11 (g_K123 G) rfl rfl (Nat.le_refl _) ⟨Nat.le_refl _, Nat.le_refl _⟩ (Nat.le_of_ble_eq_true rfl) dX12_byPart_53 ?_
        replace hm := Option.some.inj hm
        subst hm
        exact X_iret dX12_byPart_56 rfl
      · replace hm := iq c9 hm
        refine X_iconst (v := (-1 : Int32)) dX12_byPart_31 (by decide) ?_
        replace hm := Option.some.inj hm
        subst hm
        exact X_iret dX12_byPart_32 rfl
    · replace hm := ip c6 hm
      refine X_bipush (v := (-2 : Int32)) dX12_byPart_20 (by decide) ?_
      replace hm := Option.some.inj hm
      subst hm
      exact X_iret dX12_byPart_22 rfl
def mX12_isOneColour_50 (I : Nat → Nat → Int32) (b4 : Int32 → Int32 → Option (Int32)) (a1 : Int32) (a2 : Int32) (t0 : Int32) : Option (Int32) := (if t0 = (-2 : Int32) then (some (0 : Int32)) else (if a1 = (-1 : Int32) then (b4 t0 (a2 + 1)) else (if t0 = a1 then (b4 t0 (a2 + 1)) else (some (0 : Int32)))))
set_option maxHeartbeats 400000 in
set_option maxRecDepth 100000 in
theorem kX12_isOneColour_50 {E : xE} {B : Nat} {n : Nat} {K : Nat → Nat × Nat} {P : Nat → Nat → Nat} {I : Nat → Nat → Int32} {L : Nat → Nat → Int64}  {b4 : Int32 → Int32 → Option (Int32)} {a1 : Int32} {a2 : Int32} {t0 : Int32} {q : Int32} (d : Nat) (hd : 2 ≤ d) (G : GW K P)  (hb4 : ∀ (a1 : Int32) (a2 : Int32), b4 a1 a2 = some q → X E B d 0 0 yX12_isOneColour cX12_isOneColour 4 (some .boolean) (some (.int q), (n, K, P, I, L)) 4 [(0, .ref 123), (1, .int a1), (2, .int a2)] [] 0 0 (n, K, P, I, L))  (hm : mX12_isOneColour_50 I b4 a1 a2 t0 = some q) : X E B d 0 0 yX12_isOneColour cX12_isOneColour 4 (some .boolean) (some (.int q), (n, K, P, I, L)) 50 [(0, .ref 123), (1, .int a1), (2, .int a2)] [.int t0] 0 0 (n, K, P, I, L) := by
  obtain ⟨d, rfl⟩ : ∃ d0, d = d0 + 1 := ⟨d - 1, by omega⟩
  unfold mX12_isOneColour_50 at hm
  refine X_istore_n (lv' := [(3, .int t0), (0, .ref 123), (1, .int a1), (2, .int a2)]) dX12_isOneColour_50 rfl (by decide) rfl ?_
  refine X_iload_n 0 dX12_isOneColour_51 rfl rfl ?_
  refine X_bipush (v := (-2 : Int32)) dX12_isOneColour_52 (by decide) ?_
  refine X_icmp_eq (tgt := 67) dX12_isOneColour_54 (by decide) (fun c12 => ?_) (fun c12 => ?_)
  · replace hm := ip c12 hm
    refine X_iconst (v := (0 : Int32)) dX12_isOneColour_67 (by decide) ?_
    replace hm := Option.some.inj hm
    subst hm
    exact X_zret (v := (0 : Int32)) dX12_isOneColour_68 rfl (x_nz (Or.inl rfl))
  · replace hm := iq c12 hm
    refine X_iload_n 2 dX12_isOneColour_57 rfl rfl ?_
    refine X_iconst (v := (-1 : Int32)) dX12_isOneColour_58 (by decide) ?_
    refine X_icmp_eq (tgt := 69) dX12_isOneColour_59 (by decide) (fun c13 => ?_) (fun c13 => ?_)
    · replace hm := ip c13 hm
      refine X_iload_n 0 dX12_isOneColour_69 rfl rfl ?_
      refine X_istore_n (lv' := [(1, .int t0), (3, .int t0), (0, .ref 123), (2, .int a2)]) dX12_isOneColour_70 rfl (by decide) rfl ?_
      refine X_iinc (lv' := [(2, .int (a2 + 1)), (1, .int t0), (3, .int t0), (0, .ref 123)]) 3 dX12_isOneColour_71 rfl rfl (by decide) rfl ?_
      refine X_goto (tgt := 4) dX12_isOneColour_74 (by decide) ?_
      exact X_lv [3, 1, 0] rfl (hb4 _ _ hm)
    · replace hm := iq c13 hm
      refine X_iload_n 0 dX12_isOneColour_62 rfl rfl ?_
      refine X_iload_n 2 dX12_isOneColour_63 rfl rfl ?_
      refine X_icmp_eq (tgt := 69) dX12_isOneColour_64 (by decide) (fun c14 => ?_) (fun c14 => ?_)
      · replace hm := ip c14 hm
        refine X_iload_n 0 dX12_isOneColour_69 rfl rfl ?_
        refine X_istore_n (lv' := [(1, .int t0), (3, .int t0), (0, .ref 123), (2, .int a2)]) dX12_isOneColour_70 rfl (by decide) rfl ?_
        refine X_iinc (lv' := [(2, .int (a2 + 1)), (1, .int t0), (3, .int t0), (0, .ref 123)]) 3 dX12_isOneColour_71 rfl rfl (by decide) rfl ?_
        refine X_goto (tgt := 4) dX12_isOneColour_74 (by decide) ?_
        exact X_lv [3, 1, 0] rfl (hb4 _ _ hm)
      · replace hm := iq c14 hm
        refine X_iconst (v := (0 : Int32)) dX12_isOneColour_67 (by decide) ?_
        replace hm := Option.some.inj hm
        subst hm
        exact X_zret (v := (0 : Int32)) dX12_isOneColour_68 rfl (x_nz (Or.inl rfl))
def mX12_isOneColour_4 (I : Nat → Nat → Int32)  : Nat → Int32 → Int32 → Option (Int32)
  | 0, _, _ => none
  | f + 1, a1, a2 => (if (I 124 4) ≤ a2 then (some (1 : Int32)) else (Option.bind (mX12_thingOf I a2) (fun q2 => (Option.bind (mX12_isBare I q2) (fun q4 => (if q4 = 0 then (if inb a2 16 = true then (if (I 131 (ix a2)) = 0 then (mX12_isOneColour_50 I (fun (a1 : Int32) (a2 : Int32) => mX12_isOneColour_4 I f a1 a2) a1 a2 (-2 : Int32)) else (Option.bind (mX12_topOf I a2) (fun q9 => (if inb q9 4 = true then (mX12_isOneColour_50 I (fun (a1 : Int32) (a2 : Int32) => mX12_isOneColour_4 I f a1 a2) a1 a2 (I 127 (ix q9))) else none)))) else none) else (mX12_isOneColour_4 I f a1 (a2 + 1))))))))
set_option maxHeartbeats 400000 in
set_option maxRecDepth 100000 in
theorem kX12_isOneColour_4 {E : xE} {B : Nat} {n : Nat} {K : Nat → Nat × Nat} {P : Nat → Nat → Nat} {I : Nat → Nat → Int32} {L : Nat → Nat → Int64}   {q : Int32} (d : Nat) (hd : 2 ≤ d) (G : GW K P)   : ∀ (f : Nat) (a1 : Int32) (a2 : Int32), mX12_isOneColour_4 I f a1 a2 = some q → X E B d 0 0 yX12_isOneColour cX12_isOneColour 4 (some .boolean) (some (.int q), (n, K, P, I, L)) 4 [(0, .ref 123), (1, .int a1), (2, .int a2)] [] 0 0 (n, K, P, I, L) := by
  obtain ⟨d, rfl⟩ : ∃ d0, d = d0 + 1 := ⟨d - 1, by omega⟩
  intro f
  induction f with
  | zero => intro _ _ hm; exact nomatch (show (none : Option (Int32)) = some q from hm)
  | succ f ih =>
    intro a1 a2 hm
    rw [mX12_isOneColour_4] at hm
    refine X_iload_n 2 dX12_isOneColour_4 rfl rfl ?_
    refine X_aload_n 0 dX12_isOneColour_5 rfl rfl rfl ?_
    refine X_getPe fl_X12_9 (g_K123 G) rfl (g_P123_1 G) dX12_isOneColour_6 ?_
    refine X_iconst (v := (4 : Int32)) dX12_isOneColour_9 (by decide) ?_
    refine X_ialdJ (j := 4) (g_K124 G) rfl (by decide) dX12_isOneColour_10 ?_
    refine X_icmp_ge (tgt := 77) dX12_isOneColour_11 (by decide) (fun c1 => ?_) (fun c1 => ?_)
    · replace hm := ip c1 hm
      refine X_iconst (v := (1 : Int32)) dX12_isOneColour_77 (by decide) ?_
      replace hm := Option.some.inj hm
      subst hm
      exact X_zret (v := (1 : Int32)) dX12_isOneColour_78 rfl (x_nz (Or.inr rfl))
    · replace hm := iq c1 hm
      refine X_aload_n 0 dX12_isOneColour_14 rfl rfl rfl ?_
      refine X_aload_n 0 dX12_isOneColour_15 rfl rfl rfl ?_
      refine X_iload_n 2 dX12_isOneColour_16 rfl rfl ?_
      obtain ⟨q2, e3, hm⟩ := ob hm
      refine X_cV1 (ci := 11) (kX12_thingOf d (by omega) G e3) ml_X12_408 mi_X12_thingOf rfl cf_11 (g_K123 G) rfl rfl (Nat.le_refl _) ⟨Nat.le_refl _, Nat.le_refl _⟩ (Nat.le_of_ble_eq_true rfl) dX12_isOneColour_17 ?_
      obtain ⟨q4, e5, hm⟩ := ob hm
      refine X_cV1 (ci := 11) (kX12_isBare d (by omega) G e5) ml_X12_336 mi_X12_isBare rfl cf_11 (g_K123 G) rfl rfl (Nat.le_refl _) ⟨Nat.le_refl _, Nat.le_refl _⟩ (Nat.le_of_ble_eq_true rfl) dX12_isOneColour_20 ?_
      refine X_if_ne (tgt := 71) dX12_isOneColour_23 (by decide) (fun c6 => ?_) (fun c6 => ?_)
      · replace hm := iq c6 hm
        refine X_iinc (lv' := [(2, .int (a2 + 1)), (0, .ref 123), (1, .int a1)]) 2 dX12_isOneColour_71 rfl rfl (by decide) rfl ?_
        refine X_goto (tgt := 4) dX12_isOneColour_74 (by decide) ?_
        exact X_lv [1, 2, 0] rfl (ih _ _ hm)
      · replace hm := ip c6 hm
        refine X_aload_n 0 dX12_isOneColour_26 rfl rfl rfl ?_
        refine X_getPe fl_X12_31 (g_K123 G) rfl (g_P123_8 G) dX12_isOneColour_27 ?_
        refine X_iload_n 2 dX12_isOneColour_30 rfl rfl ?_
        obtain ⟨g7, hm⟩ := og hm
        refine X_ialdJ (g_K131 G) g7 rfl dX12_isOneColour_31 ?_
        refine X_if_ne (tgt := 40) dX12_isOneColour_32 (by decide) (fun c8 => ?_) (fun c8 => ?_)
        · replace hm := iq c8 hm
          refine X_aload_n 0 dX12_isOneColour_40 rfl rfl rfl ?_
          refine X_getPe fl_X12_19 (g_K123 G) rfl (g_P123_4 G) dX12_isOneColour_41 ?_
          refine X_aload_n 0 dX12_isOneColour_44 rfl rfl rfl ?_
          refine X_iload_n 2 dX12_isOneColour_45 rfl rfl ?_
          obtain ⟨q9, e10, hm⟩ := ob hm
          refine X_cV1 (ci := 11) (kX12_topOf d (by omega) G e10) ml_X12_411 mi_X12_topOf rfl cf_11 (g_K123 G) rfl rfl (Nat.le_refl _) ⟨Nat.le_refl _, Nat.le_refl _⟩ (Nat.le_of_ble_eq_true rfl) dX12_isOneColour_46 ?_
          obtain ⟨g11, hm⟩ := og hm
          refine X_ialdJ (g_K127 G) g11 rfl dX12_isOneColour_49 ?_
          exact kX12_isOneColour_50 _ hd G ih hm
        · replace hm := ip c8 hm
          refine X_bipush (v := (-2 : Int32)) dX12_isOneColour_35 (by decide) ?_
          refine X_goto (tgt := 50) dX12_isOneColour_37 (by decide) ?_
          exact kX12_isOneColour_50 _ hd G ih hm
def mX12_isOneColour (I : Nat → Nat → Int32)  : Option (Int32) := (mX12_isOneColour_4 I xf (-1 : Int32) (0 : Int32))
set_option maxHeartbeats 400000 in
set_option maxRecDepth 100000 in
theorem kX12_isOneColour {E : xE} {B : Nat} {n : Nat} {K : Nat → Nat × Nat} {P : Nat → Nat → Nat} {I : Nat → Nat → Int32} {L : Nat → Nat → Int64}   {q : Int32} (d : Nat) (hd : 2 ≤ d) (G : GW K P)   (hm : mX12_isOneColour I = some q) : MX E B d 0 0 yX12_isOneColour cX12_isOneColour 4 (some .boolean) [.ref 123] (n, K, P, I, L) (some (.int q), (n, K, P, I, L)) := by
  refine MX_of (lv := [(0, .ref 123)]) (by decide +kernel) (Nat.le_of_ble_eq_true rfl) rfl ?_
  obtain ⟨d, rfl⟩ : ∃ d0, d = d0 + 1 := ⟨d - 1, by omega⟩
  unfold mX12_isOneColour at hm
  refine X_iconst (v := (-1 : Int32)) dX12_isOneColour_0 (by decide) ?_
  refine X_istore_n (lv' := [(1, .int (-1 : Int32)), (0, .ref 123)]) dX12_isOneColour_1 rfl (by decide) rfl ?_
  refine X_iconst (v := (0 : Int32)) dX12_isOneColour_2 (by decide) ?_
  refine X_istore_n (lv' := [(2, .int (0 : Int32)), (1, .int (-1 : Int32)), (0, .ref 123)]) dX12_isOneColour_3 rfl (by decide) rfl ?_
  refine X_lv [2, 1, 0] rfl (kX12_isOneColour_4 _ hd G xf _ _  hm)
def mX12_one_49 (b18 : (Nat → Nat → Int32) → (Nat → Nat → Int64) → Int32 → Int32 → Option (Int32 × (Nat → Nat → Int32) × (Nat → Nat → Int64))) (I : Nat → Nat → Int32) (L : Nat → Nat → Int64) (a2 : Int32) (t0 : Int32) : Option (Int32 × (Nat → Nat → Int32) × (Nat → Nat → Int64)) := (Option.bind (mX12_goes I L (1 : Int32)) (fun q15 => (b18 q15.1 q15.2 t0 (a2 + 1))))
set_option maxHeartbeats 400000 in
set_option maxRecDepth 100000 in
theorem kX12_one_49 {E : xE} {B : Nat} {n : Nat} {K : Nat → Nat × Nat} {P : Nat → Nat → Nat} {I : Nat → Nat → Int32} {L : Nat → Nat → Int64}  {b18 : (Nat → Nat → Int32) → (Nat → Nat → Int64) → Int32 → Int32 → Option (Int32 × (Nat → Nat → Int32) × (Nat → Nat → Int64))} {a2 : Int32} {t0 : Int32} {q : Int32 × (Nat → Nat → Int32) × (Nat → Nat → Int64)} (d : Nat) (hd : 8 ≤ d) (G : GW K P)  (hb18 : ∀ (I : Nat → Nat → Int32) (L : Nat → Nat → Int64) (a1 : Int32) (a2 : Int32), b18 I L a1 a2 = some q → X E B d 0 0 yX12_one cX12_one 3 (some .int) (some (.int q.1), (n, K, P, q.2.1, q.2.2)) 18 [(0, .ref 123), (1, .int a1), (2, .int a2)] [] 0 0 (n, K, P, I, L))  (hm : mX12_one_49 b18 I L a2 t0 = some q) : X E B d 0 0 yX12_one cX12_one 3 (some .int) (some (.int q.1), (n, K, P, q.2.1, q.2.2)) 49 [(0, .ref 123), (2, .int a2)] [.int t0] 0 0 (n, K, P, I, L) := by
  obtain ⟨d, rfl⟩ : ∃ d0, d = d0 + 1 := ⟨d - 1, by omega⟩
  unfold mX12_one_49 at hm
  refine X_istore_n (lv' := [(1, .int t0), (0, .ref 123), (2, .int a2)]) dX12_one_49 rfl (by decide) rfl ?_
  refine X_aload_n 1 dX12_one_50 rfl rfl rfl ?_
  refine X_iconst (v := (1 : Int32)) dX12_one_51 (by decide) ?_
  obtain ⟨q15, e16, hm⟩ := ob hm
  refine X_cV0 (ci := 11) (kX12_goes d (by omega) G e16) ml_X12_494 mi_X12_goes rfl cf_11 (g_K123 G) rfl rfl (Nat.le_refl _) ⟨Nat.le_refl _, Nat.le_refl _⟩ (Nat.le_of_ble_eq_true rfl) dX12_one_52 ?_
  refine X_iinc (lv' := [(2, .int (a2 + 1)), (1, .int t0), (0, .ref 123)]) 2 dX12_one_55 rfl rfl (by decide) rfl ?_
  refine X_goto (tgt := 18) dX12_one_58 (by decide) ?_
  exact X_lv [2, 1, 0] rfl (hb18 _ _ _ _ hm)
def mX12_one_18   : Nat → (Nat → Nat → Int32) → (Nat → Nat → Int64) → Int32 → Int32 → Option (Int32 × (Nat → Nat → Int32) × (Nat → Nat → Int64))
  | 0, _, _, _, _ => none
  | f + 1, I, L, a1, a2 => (if (100 : Int32) ≤ a2 then (Option.bind (mX12_laysBack I) (fun q7 => (some (a1, q7, L)))) else (if a1 = (-2 : Int32) then (Option.bind (mX12_isOneColour I) (fun q12 => (if q12 = 0 then (mX12_one_49 (fun (I : Nat → Nat → Int32) (L : Nat → Nat → Int64) (a1 : Int32) (a2 : Int32) => mX12_one_18  f I L a1 a2) I L a2 (-2 : Int32)) else (mX12_one_49 (fun (I : Nat → Nat → Int32) (L : Nat → Nat → Int64) (a1 : Int32) (a2 : Int32) => mX12_one_18  f I L a1 a2) I L a2 (I 124 9))))) else (Option.bind (mX12_laysBack I) (fun q10 => (some (a1, q10, L))))))
set_option maxHeartbeats 400000 in
set_option maxRecDepth 100000 in
theorem kX12_one_18 {E : xE} {B : Nat} {n : Nat} {K : Nat → Nat × Nat} {P : Nat → Nat → Nat}   {q : Int32 × (Nat → Nat → Int32) × (Nat → Nat → Int64)} (d : Nat) (hd : 8 ≤ d) (G : GW K P)   : ∀ (f : Nat) (I : Nat → Nat → Int32) (L : Nat → Nat → Int64) (a1 : Int32) (a2 : Int32), mX12_one_18 f I L a1 a2 = some q → X E B d 0 0 yX12_one cX12_one 3 (some .int) (some (.int q.1), (n, K, P, q.2.1, q.2.2)) 18 [(0, .ref 123), (1, .int a1), (2, .int a2)] [] 0 0 (n, K, P, I, L) := by
  obtain ⟨d, rfl⟩ : ∃ d0, d = d0 + 1 := ⟨d - 1, by omega⟩
  intro f
  induction f with
  | zero => intro _ _ _ _ hm; exact nomatch (show (none : Option (Int32 × (Nat → Nat → Int32) × (Nat → Nat → Int64))) = some q from hm)
  | succ f ih =>
    intro I L a1 a2 hm
    rw [mX12_one_18] at hm
    refine X_iload_n 2 dX12_one_18 rfl rfl ?_
    refine X_bipush (v := (100 : Int32)) dX12_one_19 (by decide) ?_
    refine X_icmp_ge (tgt := 61) dX12_one_21 (by decide) (fun c6 => ?_) (fun c6 => ?_)
    · replace hm := ip c6 hm
      refine X_aload_n 0 dX12_one_61 rfl rfl rfl ?_
      obtain ⟨q7, e8, hm⟩ := ob hm
      refine X_cV0 (ci := 11) (kX12_laysBack d (by omega) G e8) ml_X12_497 mi_X12_laysBack rfl cf_11 (g_K123 G) rfl rfl (Nat.le_refl _) ⟨Nat.le_refl _, Nat.le_refl _⟩ (Nat.le_of_ble_eq_true rfl) dX12_one_62 ?_
      refine X_iload_n 1 dX12_one_65 rfl rfl ?_
      replace hm := Option.some.inj hm
      subst hm
      exact X_iret dX12_one_66 rfl
    · replace hm := iq c6 hm
      refine X_iload_n 1 dX12_one_24 rfl rfl ?_
      refine X_bipush (v := (-2 : Int32)) dX12_one_25 (by decide) ?_
      refine X_icmp_ne (tgt := 61) dX12_one_27 (by decide) (fun c9 => ?_) (fun c9 => ?_)
      · replace hm := iq c9 hm
        refine X_aload_n 0 dX12_one_61 rfl rfl rfl ?_
        obtain ⟨q10, e11, hm⟩ := ob hm
        refine X_cV0 (ci := 11) (kX12_laysBack d (by omega) G e11) ml_X12_497 mi_X12_laysBack rfl cf_11 (g_K123 G) rfl rfl (Nat.le_refl _) ⟨Nat.le_refl _, Nat.le_refl _⟩ (Nat.le_of_ble_eq_true rfl) dX12_one_62 ?_
        refine X_iload_n 1 dX12_one_65 rfl rfl ?_
        replace hm := Option.some.inj hm
        subst hm
        exact X_iret dX12_one_66 rfl
      · replace hm := ip c9 hm
        refine X_aload_n 0 dX12_one_30 rfl rfl rfl ?_
        obtain ⟨q12, e13, hm⟩ := ob hm
        refine X_cV1 (ci := 11) (kX12_isOneColour d (by omega) G e13) ml_X12_540 mi_X12_isOneColour rfl cf_11 (g_K123 G) rfl rfl (Nat.le_refl _) ⟨Nat.le_refl _, Nat.le_refl _⟩ (Nat.le_of_ble_eq_true rfl) dX12_one_31 ?_
        refine X_if_eq (tgt := 47) dX12_one_34 (by decide) (fun c14 => ?_) (fun c14 => ?_)
        · replace hm := ip c14 hm
          refine X_bipush (v := (-2 : Int32)) dX12_one_47 (by decide) ?_
          exact X_lv [0, 2] rfl (kX12_one_49 _ hd G ih hm)
        · replace hm := iq c14 hm
          refine X_aload_n 0 dX12_one_37 rfl rfl rfl ?_
          refine X_getPe fl_X12_9 (g_K123 G) rfl (g_P123_1 G) dX12_one_38 ?_
          refine X_bipush (v := (9 : Int32)) dX12_one_41 (by decide) ?_
          refine X_ialdJ (j := 9) (g_K124 G) rfl (by decide) dX12_one_43 ?_
          refine X_goto (tgt := 49) dX12_one_44 (by decide) ?_
          exact X_lv [0, 2] rfl (kX12_one_49 _ hd G ih hm)
def mX12_one  (I : Nat → Nat → Int32) (L : Nat → Nat → Int64) : Option (Int32 × (Nat → Nat → Int32) × (Nat → Nat → Int64)) := (Option.bind (mX12_isStreet I) (fun q1 => (if q1 = 0 then (some ((-1 : Int32), I, L)) else (Option.bind (mX12_keepsAll I) (fun q4 => (mX12_one_18 xf q4 L (-2 : Int32) (0 : Int32)))))))
set_option maxHeartbeats 400000 in
set_option maxRecDepth 100000 in
theorem kX12_one {E : xE} {B : Nat} {n : Nat} {K : Nat → Nat × Nat} {P : Nat → Nat → Nat} {I : Nat → Nat → Int32} {L : Nat → Nat → Int64}   {q : Int32 × (Nat → Nat → Int32) × (Nat → Nat → Int64)} (d : Nat) (hd : 8 ≤ d) (G : GW K P)   (hm : mX12_one I L = some q) : MX E B d 0 0 yX12_one cX12_one 3 (some .int) [.ref 123] (n, K, P, I, L) (some (.int q.1), (n, K, P, q.2.1, q.2.2)) := by
  refine MX_of (lv := [(0, .ref 123)]) (by decide +kernel) (Nat.le_of_ble_eq_true rfl) rfl ?_
  obtain ⟨d, rfl⟩ : ∃ d0, d = d0 + 1 := ⟨d - 1, by omega⟩
  unfold mX12_one at hm
  refine X_aload_n 0 dX12_one_0 rfl rfl rfl ?_
  obtain ⟨q1, e2, hm⟩ := ob hm
  refine X_cV1 (ci := 11) (kX12_isStreet d (by omega) G e2) ml_X12_429 mi_X12_isStreet rfl cf_11 (g_K123 G) rfl rfl (Nat.le_refl _) ⟨Nat.le_refl _, Nat.le_refl _⟩ (Nat.le_of_ble_eq_true rfl) dX12_one_1 ?_
  refine X_if_ne (tgt := 9) dX12_one_4 (by decide) (fun c3 => ?_) (fun c3 => ?_)
  · replace hm := iq c3 hm
    refine X_aload_n 0 dX12_one_9 rfl rfl rfl ?_
    obtain ⟨q4, e5, hm⟩ := ob hm
    refine X_cV0 (ci := 11) (kX12_keepsAll d (by omega) G e5) ml_X12_491 mi_X12_keepsAll rfl cf_11 (g_K123 G) rfl rfl (Nat.le_refl _) ⟨Nat.le_refl _, Nat.le_refl _⟩ (Nat.le_of_ble_eq_true rfl) dX12_one_10 ?_
    refine X_bipush (v := (-2 : Int32)) dX12_one_13 (by decide) ?_
    refine X_istore_n (lv' := [(1, .int (-2 : Int32)), (0, .ref 123)]) dX12_one_15 rfl (by decide) rfl ?_
    refine X_iconst (v := (0 : Int32)) dX12_one_16 (by decide) ?_
    refine X_istore_n (lv' := [(2, .int (0 : Int32)), (1, .int (-2 : Int32)), (0, .ref 123)]) dX12_one_17 rfl (by decide) rfl ?_
    refine X_lv [2, 1, 0] rfl (kX12_one_18 _ hd G xf _ _ _ _  hm)
  · replace hm := ip c3 hm
    refine X_iconst (v := (-1 : Int32)) dX12_one_7 (by decide) ?_
    replace hm := Option.some.inj hm
    subst hm
    exact X_iret dX12_one_8 rfl
def mX12_log_57  (I : Nat → Nat → Int32) (a1 : Int32) (a2 : Int32) (a3 : Int32) (a4 : Int32) : Option (Int32 × (Nat → Nat → Int32)) := (if a4 = (10 : Int32) then (some ((-2 : Int32), I)) else (if inb a4 10 = true then (if inb a4 10 = true then (if inb a4 10 = true then (some ((a4 + (1 : Int32)), (xu (xu (xu (xu I 134 (ix a4) a1) 135 (ix a4) a2) 136 (ix a4) a3) 124 10 (((xu (xu (xu I 134 (ix a4) a1) 135 (ix a4) a2) 136 (ix a4) a3) 124 10) + (1 : Int32))))) else none) else none) else none))
set_option maxHeartbeats 400000 in
set_option maxRecDepth 100000 in
theorem kX12_log_57 {E : xE} {B : Nat} {n : Nat} {K : Nat → Nat × Nat} {P : Nat → Nat → Nat} {I : Nat → Nat → Int32} {L : Nat → Nat → Int64}   {a1 : Int32} {a2 : Int32} {a3 : Int32} {a4 : Int32} {q : Int32 × (Nat → Nat → Int32)} (d : Nat) (hd : 2 ≤ d) (G : GW K P)    (hm : mX12_log_57 I a1 a2 a3 a4 = some q) : X E B d 0 0 yX12_log cX12_log 5 (some .int) (some (.int q.1), (n, K, P, q.2, L)) 57 [(0, .ref 123), (1, .int a1), (2, .int a2), (3, .int a3), (4, .int a4)] [] 0 0 (n, K, P, I, L) := by
  obtain ⟨d, rfl⟩ : ∃ d0, d = d0 + 1 := ⟨d - 1, by omega⟩
  unfold mX12_log_57 at hm
  refine X_iload 4 dX12_log_57 rfl ?_
  refine X_bipush (v := (10 : Int32)) dX12_log_59 (by decide) ?_
  refine X_icmp_ne (tgt := 67) dX12_log_61 (by decide) (fun c9 => ?_) (fun c9 => ?_)
  · replace hm := iq c9 hm
    refine X_aload_n 0 dX12_log_67 rfl rfl rfl ?_
    refine X_getPe fl_X12_40 (g_K123 G) rfl (g_P123_11 G) dX12_log_68 ?_
    refine X_iload 4 dX12_log_71 rfl ?_
    refine X_iload_n 1 dX12_log_73 rfl rfl ?_
    obtain ⟨g10, hm⟩ := og hm
    refine X_iastJ (g_K134 G) g10 rfl dX12_log_74 ?_
    refine X_aload_n 0 dX12_log_75 rfl rfl rfl ?_
    refine X_getPe fl_X12_43 (g_K123 G) rfl (g_P123_12 G) dX12_log_76 ?_
    refine X_iload 4 dX12_log_79 rfl ?_
    refine X_iload_n 2 dX12_log_81 rfl rfl ?_
    obtain ⟨g11, hm⟩ := og hm
    refine X_iastJ (g_K135 G) g11 rfl dX12_log_82 ?_
    refine X_aload_n 0 dX12_log_83 rfl rfl rfl ?_
    refine X_getPe fl_X12_46 (g_K123 G) rfl (g_P123_13 G) dX12_log_84 ?_
    refine X_iload 4 dX12_log_87 rfl ?_
    refine X_iload_n 3 dX12_log_89 rfl rfl ?_
    obtain ⟨g12, hm⟩ := og hm
    refine X_iastJ (g_K136 G) g12 rfl dX12_log_90 ?_
    refine X_aload_n 0 dX12_log_91 rfl rfl rfl ?_
    refine X_getPe fl_X12_9 (g_K123 G) rfl (g_P123_1 G) dX12_log_92 ?_
    refine X_bipush (v := (10 : Int32)) dX12_log_95 (by decide) ?_
    refine X_dup2 dX12_log_97 rfl rfl ?_
    refine X_ialdJ (j := 10) (g_K124 G) rfl (by decide) dX12_log_98 ?_
    refine X_iconst (v := (1 : Int32)) dX12_log_99 (by decide) ?_
    refine X_iadd dX12_log_100 ?_
    refine X_iastJ (j := 10) (g_K124 G) rfl (by decide) dX12_log_101 ?_
    refine X_iload 4 dX12_log_102 rfl ?_
    refine X_iconst (v := (1 : Int32)) dX12_log_104 (by decide) ?_
    refine X_iadd dX12_log_105 ?_
    replace hm := Option.some.inj hm
    subst hm
    exact X_iret dX12_log_106 rfl
  · replace hm := ip c9 hm
    refine X_bipush (v := (-2 : Int32)) dX12_log_64 (by decide) ?_
    replace hm := Option.some.inj hm
    subst hm
    exact X_iret dX12_log_66 rfl
def mX12_log  (I : Nat → Nat → Int32) (a1 : Int32) (a2 : Int32) (a3 : Int32) : Option (Int32 × (Nat → Nat → Int32)) := (if a1 = (-1 : Int32) then (some ((0 : Int32), (xu I 124 10 (0 : Int32)))) else (Option.bind (mX12_in a1.toInt64 (0 : Int64) (99 : Int64)) (fun q2 => (if q2 = 0 then (some ((-2 : Int32), I)) else (Option.bind (mX12_isThing I a2) (fun q5 => (if q5 = 0 then (some ((-2 : Int32), I)) else (if a3 = (-1 : Int32) then (mX12_log_57 I a1 a2 a3 (I 124 10)) else (Option.bind (mX12_isPainter I a3) (fun q13 => (if q13 = 0 then (some ((-2 : Int32), I)) else (mX12_log_57 I a1 a2 a3 (I 124 10)))))))))))))
set_option maxHeartbeats 400000 in
set_option maxRecDepth 100000 in
theorem kX12_log {E : xE} {B : Nat} {n : Nat} {K : Nat → Nat × Nat} {P : Nat → Nat → Nat} {I : Nat → Nat → Int32} {L : Nat → Nat → Int64}  {a1 : Int32} {a2 : Int32} {a3 : Int32} {q : Int32 × (Nat → Nat → Int32)} (d : Nat) (hd : 2 ≤ d) (G : GW K P)   (hm : mX12_log I a1 a2 a3 = some q) : MX E B d 0 0 yX12_log cX12_log 5 (some .int) [.ref 123, .int a1, .int a2, .int a3] (n, K, P, I, L) (some (.int q.1), (n, K, P, q.2, L)) := by
  refine MX_of (lv := [(0, .ref 123), (1, .int a1), (2, .int a2), (3, .int a3)]) (by decide +kernel) (Nat.le_of_ble_eq_true rfl) rfl ?_
  obtain ⟨d, rfl⟩ : ∃ d0, d = d0 + 1 := ⟨d - 1, by omega⟩
  unfold mX12_log at hm
  refine X_iload_n 1 dX12_log_0 rfl rfl ?_
  refine X_iconst (v := (-1 : Int32)) dX12_log_1 (by decide) ?_
  refine X_icmp_ne (tgt := 15) dX12_log_2 (by decide) (fun c1 => ?_) (fun c1 => ?_)
  · replace hm := iq c1 hm
    refine X_aload_n 0 dX12_log_15 rfl rfl rfl ?_
    refine X_getPe fl_X12_9 (g_K123 G) rfl (g_P123_1 G) dX12_log_16 ?_
    refine X_bipush (v := (10 : Int32)) dX12_log_19 (by decide) ?_
    refine X_ialdJ (j := 10) (g_K124 G) rfl (by decide) dX12_log_21 ?_
    refine X_istore (lv' := [(4, .int (I 124 10)), (0, .ref 123), (1, .int a1), (2, .int a2), (3, .int a3)]) dX12_log_22 (by decide) rfl ?_
    refine X_iload_n 2 dX12_log_24 rfl rfl ?_
    refine X_i2l dX12_log_25 ?_
    refine X_lconst (v := (0 : Int64)) dX12_log_26 (by decide) ?_
    refine X_ldc2 lc_X12_543 dX12_log_27 ?_
    obtain ⟨q2, e3, hm⟩ := ob hm
    refine X_cS1 (kX12_in d (by omega) G e3) ml_X12_164 ms_X12_in rfl rfl (Nat.le_refl _) ⟨Nat.le_refl _, Nat.le_refl _⟩ (Nat.le_of_ble_eq_true rfl) dX12_log_30 ?_
    refine X_if_eq (tgt := 64) dX12_log_33 (by decide) (fun c4 => ?_) (fun c4 => ?_)
    · replace hm := ip c4 hm
      refine X_bipush (v := (-2 : Int32)) dX12_log_64 (by decide) ?_
      replace hm := Option.some.inj hm
      subst hm
      exact X_iret dX12_log_66 rfl
    · replace hm := iq c4 hm
      refine X_aload_n 1 dX12_log_36 rfl rfl rfl ?_
      refine X_iload_n 3 dX12_log_37 rfl rfl ?_
      obtain ⟨q5, e6, hm⟩ := ob hm
      refine X_cV1 (ci := 11) (kX12_isThing d (by omega) G e6) ml_X12_417 mi_X12_isThing rfl cf_11 (g_K123 G) rfl rfl (Nat.le_refl _) ⟨Nat.le_refl _, Nat.le_refl _⟩ (Nat.le_of_ble_eq_true rfl) dX12_log_38 ?_
      refine X_if_eq (tgt := 64) dX12_log_41 (by decide) (fun c7 => ?_) (fun c7 => ?_)
      · replace hm := ip c7 hm
        refine X_bipush (v := (-2 : Int32)) dX12_log_64 (by decide) ?_
        replace hm := Option.some.inj hm
        subst hm
        exact X_iret dX12_log_66 rfl
      · replace hm := iq c7 hm
        refine X_iload_n 4 dX12_log_44 rfl rfl ?_
        refine X_iconst (v := (-1 : Int32)) dX12_log_45 (by decide) ?_
        refine X_icmp_eq (tgt := 57) dX12_log_46 (by decide) (fun c8 => ?_) (fun c8 => ?_)
        · replace hm := ip c8 hm
          exact X_lv [1, 2, 3, 4, 0] rfl (kX12_log_57 _ hd G hm)
        · replace hm := iq c8 hm
          refine X_aload_n 1 dX12_log_49 rfl rfl rfl ?_
          refine X_iload_n 4 dX12_log_50 rfl rfl ?_
          obtain ⟨q13, e14, hm⟩ := ob hm
          refine X_cV1 (ci := 11) (kX12_isPainter d (by omega) G e14) ml_X12_423 mi_X12_isPainter rfl cf_11 (g_K123 G) rfl rfl (Nat.le_refl _) ⟨Nat.le_refl _, Nat.le_refl _⟩ (Nat.le_of_ble_eq_true rfl) dX12_log_51 ?_
          refine X_if_eq (tgt := 64) dX12_log_54 (by decide) (fun c15 => ?_) (fun c15 => ?_)
          · replace hm := ip c15 hm
            refine X_bipush (v := (-2 : Int32)) dX12_log_64 (by decide) ?_
            replace hm := Option.some.inj hm
            subst hm
            exact X_iret dX12_log_66 rfl
          · replace hm := iq c15 hm
            exact X_lv [1, 2, 3, 4, 0] rfl (kX12_log_57 _ hd G hm)
  · replace hm := ip c1 hm
    refine X_aload_n 0 dX12_log_5 rfl rfl rfl ?_
    refine X_getPe fl_X12_9 (g_K123 G) rfl (g_P123_1 G) dX12_log_6 ?_
    refine X_bipush (v := (10 : Int32)) dX12_log_9 (by decide) ?_
    refine X_iconst (v := (0 : Int32)) dX12_log_11 (by decide) ?_
    refine X_iastJ (j := 10) (g_K124 G) rfl (by decide) dX12_log_12 ?_
    refine X_iconst (v := (0 : Int32)) dX12_log_13 (by decide) ?_
    replace hm := Option.some.inj hm
    subst hm
    exact X_iret dX12_log_14 rfl
def mX12_areLogsSo_4   : Nat → (Nat → Nat → Int32) → Int32 → Int32 → Int32 → Option (Int32 × (Nat → Nat → Int32))
  | 0, _, _, _, _ => none
  | f + 1, I, a1, a2, a3 => (if (I 124 10) ≤ a3 then (if a2 = 0 ∨ a2 = 1 then (some (a2, I)) else none) else (if a2 = 0 then (mX12_areLogsSo_4 f I a1 (0 : Int32) (a3 + 1)) else (if inb a3 10 = true then (if (I 134 (ix a3)) = a1 then (if inb a3 10 = true then (Option.bind (mX12_thingOwner I (I 135 (ix a3))) (fun q7 => (if inb a3 10 = true then (if q7.1 = (q7.2 136 (ix a3)) then (mX12_areLogsSo_4 f q7.2 a1 (1 : Int32) (a3 + 1)) else (mX12_areLogsSo_4 f q7.2 a1 (0 : Int32) (a3 + 1))) else none))) else none) else (mX12_areLogsSo_4 f I a1 (1 : Int32) (a3 + 1))) else none)))
set_option maxHeartbeats 400000 in
set_option maxRecDepth 100000 in
theorem kX12_areLogsSo_4 {E : xE} {B : Nat} {n : Nat} {K : Nat → Nat × Nat} {P : Nat → Nat → Nat} {L : Nat → Nat → Int64}   {q : Int32 × (Nat → Nat → Int32)} (d : Nat) (hd : 4 ≤ d) (G : GW K P)   : ∀ (f : Nat) (I : Nat → Nat → Int32) (a1 : Int32) (a2 : Int32) (a3 : Int32), mX12_areLogsSo_4 f I a1 a2 a3 = some q → X E B d 0 0 yX12_areLogsSo cX12_areLogsSo 4 (some .boolean) (some (.int q.1), (n, K, P, q.2, L)) 4 [(0, .ref 123), (1, .int a1), (2, .int a2), (3, .int a3)] [] 0 0 (n, K, P, I, L) := by
  obtain ⟨d, rfl⟩ : ∃ d0, d = d0 + 1 := ⟨d - 1, by omega⟩
  intro f
  induction f with
  | zero => intro _ _ _ _ hm; exact nomatch (show (none : Option (Int32 × (Nat → Nat → Int32))) = some q from hm)
  | succ f ih =>
    intro I a1 a2 a3 hm
    rw [mX12_areLogsSo_4] at hm
    refine X_iload_n 3 dX12_areLogsSo_4 rfl rfl ?_
    refine X_aload_n 0 dX12_areLogsSo_5 rfl rfl rfl ?_
    refine X_getPe fl_X12_9 (g_K123 G) rfl (g_P123_1 G) dX12_areLogsSo_6 ?_
    refine X_bipush (v := (10 : Int32)) dX12_areLogsSo_9 (by decide) ?_
    refine X_ialdJ (j := 10) (g_K124 G) rfl (by decide) dX12_areLogsSo_11 ?_
    refine X_icmp_ge (tgt := 60) dX12_areLogsSo_12 (by decide) (fun c1 => ?_) (fun c1 => ?_)
    · replace hm := ip c1 hm
      refine X_iload_n 2 dX12_areLogsSo_60 rfl rfl ?_
      obtain ⟨g2, hm⟩ := og hm
      replace hm := Option.some.inj hm
      subst hm
      exact X_zret dX12_areLogsSo_61 rfl (x_nz g2)
    · replace hm := iq c1 hm
      refine X_iload_n 2 dX12_areLogsSo_15 rfl rfl ?_
      refine X_if_eq (tgt := 52) dX12_areLogsSo_16 (by decide) (fun c3 => ?_) (fun c3 => ?_)
      · replace hm := ip c3 hm
        refine X_iconst (v := (0 : Int32)) dX12_areLogsSo_52 (by decide) ?_
        refine X_istore_n (lv' := [(2, .int (0 : Int32)), (0, .ref 123), (1, .int a1), (3, .int a3)]) dX12_areLogsSo_53 rfl (by decide) rfl ?_
        refine X_iinc (lv' := [(3, .int (a3 + 1)), (2, .int (0 : Int32)), (0, .ref 123), (1, .int a1)]) 3 dX12_areLogsSo_54 rfl rfl (by decide) rfl ?_
        refine X_goto (tgt := 4) dX12_areLogsSo_57 (by decide) ?_
        exact X_lv [2, 3, 1, 0] rfl (ih _ _ _ _ hm)
      · replace hm := iq c3 hm
        refine X_aload_n 0 dX12_areLogsSo_19 rfl rfl rfl ?_
        refine X_getPe fl_X12_40 (g_K123 G) rfl (g_P123_11 G) dX12_areLogsSo_20 ?_
        refine X_iload_n 3 dX12_areLogsSo_23 rfl rfl ?_
        obtain ⟨g4, hm⟩ := og hm
        refine X_ialdJ (g_K134 G) g4 rfl dX12_areLogsSo_24 ?_
        refine X_iload_n 1 dX12_areLogsSo_25 rfl rfl ?_
        refine X_icmp_ne (tgt := 48) dX12_areLogsSo_26 (by decide) (fun c5 => ?_) (fun c5 => ?_)
        · replace hm := iq c5 hm
          refine X_iconst (v := (1 : Int32)) dX12_areLogsSo_48 (by decide) ?_
          refine X_goto (tgt := 53) dX12_areLogsSo_49 (by decide) ?_
          refine X_istore_n (lv' := [(2, .int (1 : Int32)), (0, .ref 123), (1, .int a1), (3, .int a3)]) dX12_areLogsSo_53 rfl (by decide) rfl ?_
          refine X_iinc (lv' := [(3, .int (a3 + 1)), (2, .int (1 : Int32)), (0, .ref 123), (1, .int a1)]) 3 dX12_areLogsSo_54 rfl rfl (by decide) rfl ?_
          refine X_goto (tgt := 4) dX12_areLogsSo_57 (by decide) ?_
          exact X_lv [2, 3, 1, 0] rfl (ih _ _ _ _ hm)
        · replace hm := ip c5 hm
          refine X_aload_n 0 dX12_areLogsSo_29 rfl rfl rfl ?_
          refine X_aload_n 0 dX12_areLogsSo_30 rfl rfl rfl ?_
          refine X_getPe fl_X12_43 (g_K123 G) rfl (g_P123_12 G) dX12_areLogsSo_31 ?_
          refine X_iload_n 3 dX12_areLogsSo_34 rfl rfl ?_
          obtain ⟨g6, hm⟩ := og hm
          refine X_ialdJ (g_K135 G) g6 rfl dX12_areLogsSo_35 ?_
          obtain ⟨q7, e8, hm⟩ := ob hm
          refine X_cV1 (ci := 11) (kX12_thingOwner d (by omega) G e8) ml_X12_420 mi_X12_thingOwner rfl cf_11 (g_K123 G) rfl rfl (Nat.le_refl _) ⟨Nat.le_refl _, Nat.le_refl _⟩ (Nat.le_of_ble_eq_true rfl) dX12_areLogsSo_36 ?_
          refine X_aload_n 0 dX12_areLogsSo_39 rfl rfl rfl ?_
          refine X_getPe fl_X12_46 (g_K123 G) rfl (g_P123_13 G) dX12_areLogsSo_40 ?_
          refine X_iload_n 3 dX12_areLogsSo_43 rfl rfl ?_
          obtain ⟨g9, hm⟩ := og hm
          refine X_ialdJ (g_K136 G) g9 rfl dX12_areLogsSo_44 ?_
          refine X_icmp_ne (tgt := 52) dX12_areLogsSo_45 (by decide) (fun c10 => ?_) (fun c10 => ?_)
          · replace hm := iq c10 hm
            refine X_iconst (v := (0 : Int32)) dX12_areLogsSo_52 (by decide) ?_
            refine X_istore_n (lv' := [(2, .int (0 : Int32)), (0, .ref 123), (1, .int a1), (3, .int a3)]) dX12_areLogsSo_53 rfl (by decide) rfl ?_
            refine X_iinc (lv' := [(3, .int (a3 + 1)), (2, .int (0 : Int32)), (0, .ref 123), (1, .int a1)]) 3 dX12_areLogsSo_54 rfl rfl (by decide) rfl ?_
            refine X_goto (tgt := 4) dX12_areLogsSo_57 (by decide) ?_
            exact X_lv [2, 3, 1, 0] rfl (ih _ _ _ _ hm)
          · replace hm := ip c10 hm
            refine X_iconst (v := (1 : Int32)) dX12_areLogsSo_48 (by decide) ?_
            refine X_goto (tgt := 53) dX12_areLogsSo_49 (by decide) ?_
            refine X_istore_n (lv' := [(2, .int (1 : Int32)), (0, .ref 123), (1, .int a1), (3, .int a3)]) dX12_areLogsSo_53 rfl (by decide) rfl ?_
            refine X_iinc (lv' := [(3, .int (a3 + 1)), (2, .int (1 : Int32)), (0, .ref 123), (1, .int a1)]) 3 dX12_areLogsSo_54 rfl rfl (by decide) rfl ?_
            refine X_goto (tgt := 4) dX12_areLogsSo_57 (by decide) ?_
            exact X_lv [2, 3, 1, 0] rfl (ih _ _ _ _ hm)
def mX12_areLogsSo  (I : Nat → Nat → Int32) (a1 : Int32) : Option (Int32 × (Nat → Nat → Int32)) := (mX12_areLogsSo_4 xf I a1 (1 : Int32) (0 : Int32))
set_option maxHeartbeats 400000 in
set_option maxRecDepth 100000 in
theorem kX12_areLogsSo {E : xE} {B : Nat} {n : Nat} {K : Nat → Nat × Nat} {P : Nat → Nat → Nat} {I : Nat → Nat → Int32} {L : Nat → Nat → Int64}  {a1 : Int32} {q : Int32 × (Nat → Nat → Int32)} (d : Nat) (hd : 4 ≤ d) (G : GW K P)   (hm : mX12_areLogsSo I a1 = some q) : MX E B d 0 0 yX12_areLogsSo cX12_areLogsSo 4 (some .boolean) [.ref 123, .int a1] (n, K, P, I, L) (some (.int q.1), (n, K, P, q.2, L)) := by
  refine MX_of (lv := [(0, .ref 123), (1, .int a1)]) (by decide +kernel) (Nat.le_of_ble_eq_true rfl) rfl ?_
  obtain ⟨d, rfl⟩ : ∃ d0, d = d0 + 1 := ⟨d - 1, by omega⟩
  unfold mX12_areLogsSo at hm
  refine X_iconst (v := (1 : Int32)) dX12_areLogsSo_0 (by decide) ?_
  refine X_istore_n (lv' := [(2, .int (1 : Int32)), (0, .ref 123), (1, .int a1)]) dX12_areLogsSo_1 rfl (by decide) rfl ?_
  refine X_iconst (v := (0 : Int32)) dX12_areLogsSo_2 (by decide) ?_
  refine X_istore_n (lv' := [(3, .int (0 : Int32)), (2, .int (1 : Int32)), (0, .ref 123), (1, .int a1)]) dX12_areLogsSo_3 rfl (by decide) rfl ?_
  refine X_lv [2, 3, 1, 0] rfl (kX12_areLogsSo_4 _ hd G xf _ _ _ _  hm)
def mX12_couldRule_46  (e82 : (Nat → Nat → Int32) → (Nat → Nat → Int64) → Int32 → Int32 → Int32 → Option (Int32 × (Nat → Nat → Int32) × (Nat → Nat → Int64))) : Nat → (Nat → Nat → Int32) → (Nat → Nat → Int64) → Int32 → Int32 → Int32 → Int32 → Option (Int32 × (Nat → Nat → Int32) × (Nat → Nat → Int64))
  | 0, _, _, _, _, _, _ => none
  | f + 1, I, L, a2, a3, a4, a5 => (if (I 124 3) ≤ a5 then (e82 I L a2 a3 a4) else (if a4 = a2 then (Option.bind (mX12_thingOwner I a5) (fun q10 => (if inb a5 4 = true then (mX12_couldRule_46 e82 f (xu q10.2 168 (ix a5) q10.1) L a2 a3 a4 (a5 + 1)) else none))) else (e82 I L a2 a3 a4)))
set_option maxHeartbeats 400000 in
set_option maxRecDepth 100000 in
theorem kX12_couldRule_46 {E : xE} {B : Nat} {n : Nat} {K : Nat → Nat × Nat} {P : Nat → Nat → Nat}  {e82 : (Nat → Nat → Int32) → (Nat → Nat → Int64) → Int32 → Int32 → Int32 → Option (Int32 × (Nat → Nat → Int32) × (Nat → Nat → Int64))} {q : Int32 × (Nat → Nat → Int32) × (Nat → Nat → Int64)} (d : Nat) (hd : 8 ≤ d) (G : GW K P)  (he82 : ∀ (I : Nat → Nat → Int32) (L : Nat → Nat → Int64) (a2 : Int32) (a3 : Int32) (a4 : Int32), e82 I L a2 a3 a4 = some q → X E B d 0 0 yX12_couldRule cX12_couldRule 6 (some .boolean) (some (.int q.1), (n, K, P, q.2.1, q.2.2)) 82 [(0, .ref 123), (2, .int a2), (3, .int a3), (4, .int a4)] [] 0 0 (n, K, P, I, L)) : ∀ (f : Nat) (I : Nat → Nat → Int32) (L : Nat → Nat → Int64) (a2 : Int32) (a3 : Int32) (a4 : Int32) (a5 : Int32), mX12_couldRule_46 e82 f I L a2 a3 a4 a5 = some q → X E B d 0 0 yX12_couldRule cX12_couldRule 6 (some .boolean) (some (.int q.1), (n, K, P, q.2.1, q.2.2)) 46 [(0, .ref 123), (2, .int a2), (3, .int a3), (4, .int a4), (5, .int a5)] [] 0 0 (n, K, P, I, L) := by
  obtain ⟨d, rfl⟩ : ∃ d0, d = d0 + 1 := ⟨d - 1, by omega⟩
  intro f
  induction f with
  | zero => intro _ _ _ _ _ _ hm; exact nomatch (show (none : Option (Int32 × (Nat → Nat → Int32) × (Nat → Nat → Int64))) = some q from hm)
  | succ f ih =>
    intro I L a2 a3 a4 a5 hm
    rw [mX12_couldRule_46] at hm
    refine X_iload 4 dX12_couldRule_46 rfl ?_
    refine X_aload_n 0 dX12_couldRule_48 rfl rfl rfl ?_
    refine X_getPe fl_X12_9 (g_K123 G) rfl (g_P123_1 G) dX12_couldRule_49 ?_
    refine X_iconst (v := (3 : Int32)) dX12_couldRule_52 (by decide) ?_
    refine X_ialdJ (j := 3) (g_K124 G) rfl (by decide) dX12_couldRule_53 ?_
    refine X_icmp_ge (tgt := 82) dX12_couldRule_54 (by decide) (fun c8 => ?_) (fun c8 => ?_)
    · replace hm := ip c8 hm
      exact X_lv [0, 1, 2, 3] rfl (he82 _ _ _ _ _ hm)
    · replace hm := iq c8 hm
      refine X_iload 3 dX12_couldRule_57 rfl ?_
      refine X_iload_n 1 dX12_couldRule_59 rfl rfl ?_
      refine X_icmp_ne (tgt := 82) dX12_couldRule_60 (by decide) (fun c9 => ?_) (fun c9 => ?_)
      · replace hm := iq c9 hm
        exact X_lv [0, 1, 2, 3] rfl (he82 _ _ _ _ _ hm)
      · replace hm := ip c9 hm
        refine X_aload_n 0 dX12_couldRule_63 rfl rfl rfl ?_
        refine X_getPe fl_X12_148 (g_K123 G) rfl (g_P123_59 G) dX12_couldRule_64 ?_
        refine X_iload 4 dX12_couldRule_67 rfl ?_
        refine X_aload_n 0 dX12_couldRule_69 rfl rfl rfl ?_
        refine X_iload 4 dX12_couldRule_70 rfl ?_
        obtain ⟨q10, e11, hm⟩ := ob hm
        refine X_cV1 (ci := 11) (kX12_thingOwner d (by omega) G e11) ml_X12_420 mi_X12_thingOwner rfl cf_11 (g_K123 G) rfl rfl (Nat.le_refl _) ⟨Nat.le_refl _, Nat.le_refl _⟩ (Nat.le_of_ble_eq_true rfl) dX12_couldRule_72 ?_
        obtain ⟨g12, hm⟩ := og hm
        refine X_iastJ (g_K168 G) g12 rfl dX12_couldRule_75 ?_
        refine X_iinc (lv' := [(5, .int (a5 + 1)), (0, .ref 123), (2, .int a2), (3, .int a3), (4, .int a4)]) 4 dX12_couldRule_76 rfl rfl (by decide) rfl ?_
        refine X_goto (tgt := 46) dX12_couldRule_79 (by decide) ?_
        exact X_lv [1, 2, 3, 4, 0] rfl (ih _ _ _ _ _ _ hm)
def mX12_couldRule_82 (b17 : (Nat → Nat → Int32) → (Nat → Nat → Int64) → Int32 → Int32 → Int32 → Option (Int32 × (Nat → Nat → Int32) × (Nat → Nat → Int64))) (I : Nat → Nat → Int32) (L : Nat → Nat → Int64) (a2 : Int32) (a3 : Int32) (a4 : Int32) : Option (Int32 × (Nat → Nat → Int32) × (Nat → Nat → Int64)) := (Option.bind (mX12_goes I L (1 : Int32)) (fun q14 => (b17 q14.1 q14.2 a2 a3 (a4 + 1))))
set_option maxHeartbeats 400000 in
set_option maxRecDepth 100000 in
theorem kX12_couldRule_82 {E : xE} {B : Nat} {n : Nat} {K : Nat → Nat × Nat} {P : Nat → Nat → Nat} {I : Nat → Nat → Int32} {L : Nat → Nat → Int64}  {b17 : (Nat → Nat → Int32) → (Nat → Nat → Int64) → Int32 → Int32 → Int32 → Option (Int32 × (Nat → Nat → Int32) × (Nat → Nat → Int64))} {a2 : Int32} {a3 : Int32} {a4 : Int32} {q : Int32 × (Nat → Nat → Int32) × (Nat → Nat → Int64)} (d : Nat) (hd : 8 ≤ d) (G : GW K P)  (hb17 : ∀ (I : Nat → Nat → Int32) (L : Nat → Nat → Int64) (a2 : Int32) (a3 : Int32) (a4 : Int32), b17 I L a2 a3 a4 = some q → X E B d 0 0 yX12_couldRule cX12_couldRule 6 (some .boolean) (some (.int q.1), (n, K, P, q.2.1, q.2.2)) 17 [(0, .ref 123), (2, .int a2), (3, .int a3), (4, .int a4)] [] 0 0 (n, K, P, I, L))  (hm : mX12_couldRule_82 b17 I L a2 a3 a4 = some q) : X E B d 0 0 yX12_couldRule cX12_couldRule 6 (some .boolean) (some (.int q.1), (n, K, P, q.2.1, q.2.2)) 82 [(0, .ref 123), (2, .int a2), (3, .int a3), (4, .int a4)] [] 0 0 (n, K, P, I, L) := by
  obtain ⟨d, rfl⟩ : ∃ d0, d = d0 + 1 := ⟨d - 1, by omega⟩
  unfold mX12_couldRule_82 at hm
  refine X_aload_n 0 dX12_couldRule_82 rfl rfl rfl ?_
  refine X_iconst (v := (1 : Int32)) dX12_couldRule_83 (by decide) ?_
  obtain ⟨q14, e15, hm⟩ := ob hm
  refine X_cV0 (ci := 11) (kX12_goes d (by omega) G e15) ml_X12_494 mi_X12_goes rfl cf_11 (g_K123 G) rfl rfl (Nat.le_refl _) ⟨Nat.le_refl _, Nat.le_refl _⟩ (Nat.le_of_ble_eq_true rfl) dX12_couldRule_84 ?_
  refine X_iinc (lv' := [(4, .int (a4 + 1)), (0, .ref 123), (2, .int a2), (3, .int a3)]) 3 dX12_couldRule_87 rfl rfl (by decide) rfl ?_
  refine X_goto (tgt := 17) dX12_couldRule_90 (by decide) ?_
  exact X_lv [1, 2, 3, 0] rfl (hb17 _ _ _ _ _ hm)
def mX12_couldRule_42 (b17 : (Nat → Nat → Int32) → (Nat → Nat → Int64) → Int32 → Int32 → Int32 → Option (Int32 × (Nat → Nat → Int32) × (Nat → Nat → Int64))) (I : Nat → Nat → Int32) (L : Nat → Nat → Int64) (a2 : Int32) (a4 : Int32) (t0 : Int32) : Option (Int32 × (Nat → Nat → Int32) × (Nat → Nat → Int64)) := (mX12_couldRule_46 (fun (I_13 : (Nat → Nat → Int32)) (L_13 : (Nat → Nat → Int64)) (a2_13 : Int32) (a3_13 : Int32) (a4_13 : Int32) => (mX12_couldRule_82 b17 I_13 L_13 a2_13 a3_13 a4_13)) xf I L a2 t0 a4 (0 : Int32))
set_option maxHeartbeats 400000 in
set_option maxRecDepth 100000 in
theorem kX12_couldRule_42 {E : xE} {B : Nat} {n : Nat} {K : Nat → Nat × Nat} {P : Nat → Nat → Nat} {I : Nat → Nat → Int32} {L : Nat → Nat → Int64}  {b17 : (Nat → Nat → Int32) → (Nat → Nat → Int64) → Int32 → Int32 → Int32 → Option (Int32 × (Nat → Nat → Int32) × (Nat → Nat → Int64))} {a2 : Int32} {a4 : Int32} {t0 : Int32} {q : Int32 × (Nat → Nat → Int32) × (Nat → Nat → Int64)} (d : Nat) (hd : 8 ≤ d) (G : GW K P)  (hb17 : ∀ (I : Nat → Nat → Int32) (L : Nat → Nat → Int64) (a2 : Int32) (a3 : Int32) (a4 : Int32), b17 I L a2 a3 a4 = some q → X E B d 0 0 yX12_couldRule cX12_couldRule 6 (some .boolean) (some (.int q.1), (n, K, P, q.2.1, q.2.2)) 17 [(0, .ref 123), (2, .int a2), (3, .int a3), (4, .int a4)] [] 0 0 (n, K, P, I, L))  (hm : mX12_couldRule_42 b17 I L a2 a4 t0 = some q) : X E B d 0 0 yX12_couldRule cX12_couldRule 6 (some .boolean) (some (.int q.1), (n, K, P, q.2.1, q.2.2)) 42 [(0, .ref 123), (2, .int a2), (4, .int a4)] [.int t0] 0 0 (n, K, P, I, L) := by
  obtain ⟨d, rfl⟩ : ∃ d0, d = d0 + 1 := ⟨d - 1, by omega⟩
  unfold mX12_couldRule_42 at hm
  refine X_istore_n (lv' := [(3, .int t0), (0, .ref 123), (2, .int a2), (4, .int a4)]) dX12_couldRule_42 rfl (by decide) rfl ?_
  refine X_iconst (v := (0 : Int32)) dX12_couldRule_43 (by decide) ?_
  refine X_istore (lv' := [(5, .int (0 : Int32)), (3, .int t0), (0, .ref 123), (2, .int a2), (4, .int a4)]) dX12_couldRule_44 (by decide) rfl ?_
  refine X_lv [2, 3, 1, 4, 0] rfl (kX12_couldRule_46 _ hd G (fun I_13 L_13 a2_13 a3_13 a4_13 hm => ?_) xf _ _ _ _ _ _  hm)
  exact kX12_couldRule_82 _ hd G hb17 hm
def mX12_couldRule_41 (b17 : (Nat → Nat → Int32) → (Nat → Nat → Int64) → Int32 → Int32 → Int32 → Option (Int32 × (Nat → Nat → Int32) × (Nat → Nat → Int64))) (I : Nat → Nat → Int32) (L : Nat → Nat → Int64) (a2 : Int32) (a4 : Int32) : Option (Int32 × (Nat → Nat → Int32) × (Nat → Nat → Int64)) := (mX12_couldRule_42 b17 I L a2 a4 (0 : Int32))
set_option maxHeartbeats 400000 in
set_option maxRecDepth 100000 in
theorem kX12_couldRule_41 {E : xE} {B : Nat} {n : Nat} {K : Nat → Nat × Nat} {P : Nat → Nat → Nat} {I : Nat → Nat → Int32} {L : Nat → Nat → Int64}  {b17 : (Nat → Nat → Int32) → (Nat → Nat → Int64) → Int32 → Int32 → Int32 → Option (Int32 × (Nat → Nat → Int32) × (Nat → Nat → Int64))} {a2 : Int32} {a4 : Int32} {q : Int32 × (Nat → Nat → Int32) × (Nat → Nat → Int64)} (d : Nat) (hd : 8 ≤ d) (G : GW K P)  (hb17 : ∀ (I : Nat → Nat → Int32) (L : Nat → Nat → Int64) (a2 : Int32) (a3 : Int32) (a4 : Int32), b17 I L a2 a3 a4 = some q → X E B d 0 0 yX12_couldRule cX12_couldRule 6 (some .boolean) (some (.int q.1), (n, K, P, q.2.1, q.2.2)) 17 [(0, .ref 123), (2, .int a2), (3, .int a3), (4, .int a4)] [] 0 0 (n, K, P, I, L))  (hm : mX12_couldRule_41 b17 I L a2 a4 = some q) : X E B d 0 0 yX12_couldRule cX12_couldRule 6 (some .boolean) (some (.int q.1), (n, K, P, q.2.1, q.2.2)) 41 [(0, .ref 123), (2, .int a2), (4, .int a4)] [] 0 0 (n, K, P, I, L) := by
  obtain ⟨d, rfl⟩ : ∃ d0, d = d0 + 1 := ⟨d - 1, by omega⟩
  unfold mX12_couldRule_41 at hm
  refine X_iconst (v := (0 : Int32)) dX12_couldRule_41 (by decide) ?_
  exact kX12_couldRule_42 _ hd G hb17 hm
def mX12_couldRule_17   : Nat → (Nat → Nat → Int32) → (Nat → Nat → Int64) → Int32 → Int32 → Int32 → Option (Int32 × (Nat → Nat → Int32) × (Nat → Nat → Int64))
  | 0, _, _, _, _, _ => none
  | f + 1, I, L, a2, a3, a4 => (if (99 : Int32) < a4 then (Option.bind (mX12_laysBack I) (fun q4 => (if a3 = 0 ∨ a3 = 1 then (some (a3, q4, L)) else none))) else (if a3 = 0 then (mX12_couldRule_41 (fun (I : Nat → Nat → Int32) (L : Nat → Nat → Int64) (a2 : Int32) (a3 : Int32) (a4 : Int32) => mX12_couldRule_17  f I L a2 a3 a4) I L a2 a4) else (Option.bind (mX12_areLogsSo I a4) (fun q16 => (if q16.1 = 0 then (mX12_couldRule_41 (fun (I : Nat → Nat → Int32) (L : Nat → Nat → Int64) (a2 : Int32) (a3 : Int32) (a4 : Int32) => mX12_couldRule_17  f I L a2 a3 a4) q16.2 L a2 a4) else (mX12_couldRule_42 (fun (I : Nat → Nat → Int32) (L : Nat → Nat → Int64) (a2 : Int32) (a3 : Int32) (a4 : Int32) => mX12_couldRule_17  f I L a2 a3 a4) q16.2 L a2 a4 (1 : Int32)))))))
set_option maxHeartbeats 400000 in
set_option maxRecDepth 100000 in
theorem kX12_couldRule_17 {E : xE} {B : Nat} {n : Nat} {K : Nat → Nat × Nat} {P : Nat → Nat → Nat}   {q : Int32 × (Nat → Nat → Int32) × (Nat → Nat → Int64)} (d : Nat) (hd : 8 ≤ d) (G : GW K P)   : ∀ (f : Nat) (I : Nat → Nat → Int32) (L : Nat → Nat → Int64) (a2 : Int32) (a3 : Int32) (a4 : Int32), mX12_couldRule_17 f I L a2 a3 a4 = some q → X E B d 0 0 yX12_couldRule cX12_couldRule 6 (some .boolean) (some (.int q.1), (n, K, P, q.2.1, q.2.2)) 17 [(0, .ref 123), (2, .int a2), (3, .int a3), (4, .int a4)] [] 0 0 (n, K, P, I, L) := by
  obtain ⟨d, rfl⟩ : ∃ d0, d = d0 + 1 := ⟨d - 1, by omega⟩
  intro f
  induction f with
  | zero => intro _ _ _ _ _ hm; exact nomatch (show (none : Option (Int32 × (Nat → Nat → Int32) × (Nat → Nat → Int64))) = some q from hm)
  | succ f ih =>
    intro I L a2 a3 a4 hm
    rw [mX12_couldRule_17] at hm
    refine X_iload 3 dX12_couldRule_17 rfl ?_
    refine X_bipush (v := (99 : Int32)) dX12_couldRule_19 (by decide) ?_
    refine X_icmp_gt (tgt := 93) dX12_couldRule_21 (by decide) (fun c3 => ?_) (fun c3 => ?_)
    · replace hm := ip c3 hm
      refine X_aload_n 0 dX12_couldRule_93 rfl rfl rfl ?_
      obtain ⟨q4, e5, hm⟩ := ob hm
      refine X_cV0 (ci := 11) (kX12_laysBack d (by omega) G e5) ml_X12_497 mi_X12_laysBack rfl cf_11 (g_K123 G) rfl rfl (Nat.le_refl _) ⟨Nat.le_refl _, Nat.le_refl _⟩ (Nat.le_of_ble_eq_true rfl) dX12_couldRule_94 ?_
      refine X_iload_n 2 dX12_couldRule_97 rfl rfl ?_
      obtain ⟨g6, hm⟩ := og hm
      replace hm := Option.some.inj hm
      subst hm
      exact X_zret dX12_couldRule_98 rfl (x_nz g6)
    · replace hm := iq c3 hm
      refine X_iload_n 2 dX12_couldRule_24 rfl rfl ?_
      refine X_if_eq (tgt := 41) dX12_couldRule_25 (by decide) (fun c7 => ?_) (fun c7 => ?_)
      · replace hm := ip c7 hm
        exact X_lv [0, 1, 3] rfl (kX12_couldRule_41 _ hd G ih hm)
      · replace hm := iq c7 hm
        refine X_aload_n 0 dX12_couldRule_28 rfl rfl rfl ?_
        refine X_iload 3 dX12_couldRule_29 rfl ?_
        obtain ⟨q16, e17, hm⟩ := ob hm
        refine X_cV1 (ci := 11) (kX12_areLogsSo d (by omega) G e17) ml_X12_545 mi_X12_areLogsSo rfl cf_11 (g_K123 G) rfl rfl (Nat.le_refl _) ⟨Nat.le_refl _, Nat.le_refl _⟩ (Nat.le_of_ble_eq_true rfl) dX12_couldRule_31 ?_
        refine X_if_eq (tgt := 41) dX12_couldRule_34 (by decide) (fun c18 => ?_) (fun c18 => ?_)
        · replace hm := ip c18 hm
          exact X_lv [0, 1, 3] rfl (kX12_couldRule_41 _ hd G ih hm)
        · replace hm := iq c18 hm
          refine X_iconst (v := (1 : Int32)) dX12_couldRule_37 (by decide) ?_
          refine X_goto (tgt := 42) dX12_couldRule_38 (by decide) ?_
          exact X_lv [0, 1, 3] rfl (kX12_couldRule_42 _ hd G ih hm)
def mX12_couldRule  (I : Nat → Nat → Int32) (L : Nat → Nat → Int64) (a1 : Int32) (a2 : Int32) : Option (Int32 × (Nat → Nat → Int32) × (Nat → Nat → Int64)) := (Option.bind (mX12_begins (xu I 124 12 a1)) (fun q1 => (mX12_couldRule_17 xf q1 L a2 (1 : Int32) (0 : Int32))))
set_option maxHeartbeats 400000 in
set_option maxRecDepth 100000 in
theorem kX12_couldRule {E : xE} {B : Nat} {n : Nat} {K : Nat → Nat × Nat} {P : Nat → Nat → Nat} {I : Nat → Nat → Int32} {L : Nat → Nat → Int64}  {a1 : Int32} {a2 : Int32} {q : Int32 × (Nat → Nat → Int32) × (Nat → Nat → Int64)} (d : Nat) (hd : 8 ≤ d) (G : GW K P)   (hm : mX12_couldRule I L a1 a2 = some q) : MX E B d 0 0 yX12_couldRule cX12_couldRule 6 (some .boolean) [.ref 123, .int a1, .int a2] (n, K, P, I, L) (some (.int q.1), (n, K, P, q.2.1, q.2.2)) := by
  refine MX_of (lv := [(0, .ref 123), (1, .int a1), (2, .int a2)]) (by decide +kernel) (Nat.le_of_ble_eq_true rfl) rfl ?_
  obtain ⟨d, rfl⟩ : ∃ d0, d = d0 + 1 := ⟨d - 1, by omega⟩
  unfold mX12_couldRule at hm
  refine X_aload_n 0 dX12_couldRule_0 rfl rfl rfl ?_
  refine X_getPe fl_X12_9 (g_K123 G) rfl (g_P123_1 G) dX12_couldRule_1 ?_
  refine X_bipush (v := (12 : Int32)) dX12_couldRule_4 (by decide) ?_
  refine X_iload_n 1 dX12_couldRule_6 rfl rfl ?_
  refine X_iastJ (j := 12) (g_K124 G) rfl (by decide) dX12_couldRule_7 ?_
  refine X_aload_n 0 dX12_couldRule_8 rfl rfl rfl ?_
  obtain ⟨q1, e2, hm⟩ := ob hm
  refine X_cV0 (ci := 11) (kX12_begins d (by omega) G e2) ml_X12_346 mi_X12_begins rfl cf_11 (g_K123 G) rfl rfl (Nat.le_refl _) ⟨Nat.le_refl _, Nat.le_refl _⟩ (Nat.le_of_ble_eq_true rfl) dX12_couldRule_9 ?_
  refine X_iconst (v := (1 : Int32)) dX12_couldRule_12 (by decide) ?_
  refine X_istore_n (lv' := [(3, .int (1 : Int32)), (0, .ref 123), (1, .int a1), (2, .int a2)]) dX12_couldRule_13 rfl (by decide) rfl ?_
  refine X_iconst (v := (0 : Int32)) dX12_couldRule_14 (by decide) ?_
  refine X_istore (lv' := [(4, .int (0 : Int32)), (3, .int (1 : Int32)), (0, .ref 123), (1, .int a1), (2, .int a2)]) dX12_couldRule_15 (by decide) rfl ?_
  refine X_lv [2, 4, 1, 0] rfl (kX12_couldRule_17 _ hd G xf _ _ _ _ _  hm)
def mX12_ruled_32   : Nat → (Nat → Nat → Int32) → (Nat → Nat → Int64) → Int32 → Int32 → Int32 → Int32 → Option (Int32 × (Nat → Nat → Int32) × (Nat → Nat → Int64))
  | 0, _, _, _, _, _, _ => none
  | f + 1, I, L, a1, a2, a3, a4 => (if (I 123 31) ≤ a4 then (if a1 = 0 then (some (a2, I, L)) else (some (a3, I, L))) else (Option.bind (mX12_couldRule I L a4 (-1 : Int32)) (fun q11 => (if q11.1 = 0 then (mX12_ruled_32 f q11.2.1 q11.2.2 a1 a2 a3 (a4 + 1)) else (if a2 = 0 then (mX12_ruled_32 f q11.2.1 q11.2.2 a1 (a2 + 1) a4 (a4 + 1)) else (mX12_ruled_32 f q11.2.1 q11.2.2 a1 (a2 + 1) a3 (a4 + 1)))))))
set_option maxHeartbeats 400000 in
set_option maxRecDepth 100000 in
theorem kX12_ruled_32 {E : xE} {B : Nat} {n : Nat} {K : Nat → Nat × Nat} {P : Nat → Nat → Nat}   {q : Int32 × (Nat → Nat → Int32) × (Nat → Nat → Int64)} (d : Nat) (hd : 9 ≤ d) (G : GW K P)   : ∀ (f : Nat) (I : Nat → Nat → Int32) (L : Nat → Nat → Int64) (a1 : Int32) (a2 : Int32) (a3 : Int32) (a4 : Int32), mX12_ruled_32 f I L a1 a2 a3 a4 = some q → X E B d 0 0 yX12_ruled cX12_ruled 5 (some .int) (some (.int q.1), (n, K, P, q.2.1, q.2.2)) 32 [(0, .ref 123), (1, .int a1), (2, .int a2), (3, .int a3), (4, .int a4)] [] 0 0 (n, K, P, I, L) := by
  obtain ⟨d, rfl⟩ : ∃ d0, d = d0 + 1 := ⟨d - 1, by omega⟩
  intro f
  induction f with
  | zero => intro _ _ _ _ _ _ hm; exact nomatch (show (none : Option (Int32 × (Nat → Nat → Int32) × (Nat → Nat → Int64))) = some q from hm)
  | succ f ih =>
    intro I L a1 a2 a3 a4 hm
    rw [mX12_ruled_32] at hm
    refine X_iload 4 dX12_ruled_32 rfl ?_
    refine X_aload_n 0 dX12_ruled_34 rfl rfl rfl ?_
    refine X_getI fl_X12_362 (g_K123 G) rfl dX12_ruled_35 ?_
    refine X_icmp_ge (tgt := 71) dX12_ruled_38 (by decide) (fun c9 => ?_) (fun c9 => ?_)
    · replace hm := ip c9 hm
      refine X_iload_n 1 dX12_ruled_71 rfl rfl ?_
      refine X_if_ne (tgt := 79) dX12_ruled_72 (by decide) (fun c10 => ?_) (fun c10 => ?_)
      · replace hm := iq c10 hm
        refine X_iload_n 3 dX12_ruled_79 rfl rfl ?_
        replace hm := Option.some.inj hm
        subst hm
        exact X_iret dX12_ruled_80 rfl
      · replace hm := ip c10 hm
        refine X_iload_n 2 dX12_ruled_75 rfl rfl ?_
        refine X_goto (tgt := 80) dX12_ruled_76 (by decide) ?_
        replace hm := Option.some.inj hm
        subst hm
        exact X_iret dX12_ruled_80 rfl
    · replace hm := iq c9 hm
      refine X_aload_n 0 dX12_ruled_41 rfl rfl rfl ?_
      refine X_iload 4 dX12_ruled_42 rfl ?_
      refine X_iconst (v := (-1 : Int32)) dX12_ruled_44 (by decide) ?_
      obtain ⟨q11, e12, hm⟩ := ob hm
      refine X_cV1 (ci := 11) (kX12_couldRule d (by omega) G e12) ml_X12_548 mi_X12_couldRule rfl cf_11 (g_K123 G) rfl rfl (Nat.le_refl _) ⟨Nat.le_refl _, Nat.le_refl _⟩ (Nat.le_of_ble_eq_true rfl) dX12_ruled_45 ?_
      refine X_if_eq (tgt := 65) dX12_ruled_48 (by decide) (fun c13 => ?_) (fun c13 => ?_)
      · replace hm := ip c13 hm
        refine X_iinc (lv' := [(4, .int (a4 + 1)), (0, .ref 123), (1, .int a1), (2, .int a2), (3, .int a3)]) 4 dX12_ruled_65 rfl rfl (by decide) rfl ?_
        refine X_goto (tgt := 32) dX12_ruled_68 (by decide) ?_
        exact X_lv [1, 2, 3, 4, 0] rfl (ih _ _ _ _ _ _ hm)
      · replace hm := iq c13 hm
        refine X_iload_n 2 dX12_ruled_51 rfl rfl ?_
        refine X_if_ne (tgt := 60) dX12_ruled_52 (by decide) (fun c14 => ?_) (fun c14 => ?_)
        · replace hm := iq c14 hm
          refine X_iload_n 3 dX12_ruled_60 rfl rfl ?_
          refine X_istore_n (lv' := [(3, .int a3), (0, .ref 123), (1, .int a1), (2, .int a2), (4, .int a4)]) dX12_ruled_61 rfl (by decide) rfl ?_
          refine X_iinc (lv' := [(2, .int (a2 + 1)), (3, .int a3), (0, .ref 123), (1, .int a1), (4, .int a4)]) 3 dX12_ruled_62 rfl rfl (by decide) rfl ?_
          refine X_iinc (lv' := [(4, .int (a4 + 1)), (2, .int (a2 + 1)), (3, .int a3), (0, .ref 123), (1, .int a1)]) 4 dX12_ruled_65 rfl rfl (by decide) rfl ?_
          refine X_goto (tgt := 32) dX12_ruled_68 (by decide) ?_
          exact X_lv [3, 4, 1, 2, 0] rfl (ih _ _ _ _ _ _ hm)
        · replace hm := ip c14 hm
          refine X_iload 4 dX12_ruled_55 rfl ?_
          refine X_goto (tgt := 61) dX12_ruled_57 (by decide) ?_
          refine X_istore_n (lv' := [(3, .int a4), (0, .ref 123), (1, .int a1), (2, .int a2), (4, .int a4)]) dX12_ruled_61 rfl (by decide) rfl ?_
          refine X_iinc (lv' := [(2, .int (a2 + 1)), (3, .int a4), (0, .ref 123), (1, .int a1), (4, .int a4)]) 3 dX12_ruled_62 rfl rfl (by decide) rfl ?_
          refine X_iinc (lv' := [(4, .int (a4 + 1)), (2, .int (a2 + 1)), (3, .int a4), (0, .ref 123), (1, .int a1)]) 4 dX12_ruled_65 rfl rfl (by decide) rfl ?_
          refine X_goto (tgt := 32) dX12_ruled_68 (by decide) ?_
          exact X_lv [3, 4, 1, 2, 0] rfl (ih _ _ _ _ _ _ hm)
def mX12_ruled  (I : Nat → Nat → Int32) (L : Nat → Nat → Int64) (a1 : Int32) : Option (Int32 × (Nat → Nat → Int32) × (Nat → Nat → Int64)) := (Option.bind (mX12_isStreet I) (fun q1 => (if q1 = 0 then (some ((-3 : Int32), I, L)) else (Option.bind (mX12_in a1.toInt64 (0 : Int64) (1 : Int64)) (fun q4 => (if q4 = 0 then (some ((-3 : Int32), I, L)) else (Option.bind (mX12_keepsAll I) (fun q7 => (mX12_ruled_32 xf q7 L a1 (0 : Int32) (-2 : Int32) (-1 : Int32))))))))))
set_option maxHeartbeats 400000 in
set_option maxRecDepth 100000 in
theorem kX12_ruled {E : xE} {B : Nat} {n : Nat} {K : Nat → Nat × Nat} {P : Nat → Nat → Nat} {I : Nat → Nat → Int32} {L : Nat → Nat → Int64}  {a1 : Int32} {q : Int32 × (Nat → Nat → Int32) × (Nat → Nat → Int64)} (d : Nat) (hd : 9 ≤ d) (G : GW K P)   (hm : mX12_ruled I L a1 = some q) : MX E B d 0 0 yX12_ruled cX12_ruled 5 (some .int) [.ref 123, .int a1] (n, K, P, I, L) (some (.int q.1), (n, K, P, q.2.1, q.2.2)) := by
  refine MX_of (lv := [(0, .ref 123), (1, .int a1)]) (by decide +kernel) (Nat.le_of_ble_eq_true rfl) rfl ?_
  obtain ⟨d, rfl⟩ : ∃ d0, d = d0 + 1 := ⟨d - 1, by omega⟩
  unfold mX12_ruled at hm
  refine X_aload_n 0 dX12_ruled_0 rfl rfl rfl ?_
  obtain ⟨q1, e2, hm⟩ := ob hm
  refine X_cV1 (ci := 11) (kX12_isStreet d (by omega) G e2) ml_X12_429 mi_X12_isStreet rfl cf_11 (g_K123 G) rfl rfl (Nat.le_refl _) ⟨Nat.le_refl _, Nat.le_refl _⟩ (Nat.le_of_ble_eq_true rfl) dX12_ruled_1 ?_
  refine X_if_eq (tgt := 17) dX12_ruled_4 (by decide) (fun c3 => ?_) (fun c3 => ?_)
  · replace hm := ip c3 hm
    refine X_bipush (v := (-3 : Int32)) dX12_ruled_17 (by decide) ?_
    replace hm := Option.some.inj hm
    subst hm
    exact X_iret dX12_ruled_19 rfl
  · replace hm := iq c3 hm
    refine X_iload_n 1 dX12_ruled_7 rfl rfl ?_
    refine X_i2l dX12_ruled_8 ?_
    refine X_lconst (v := (0 : Int64)) dX12_ruled_9 (by decide) ?_
    refine X_lconst (v := (1 : Int64)) dX12_ruled_10 (by decide) ?_
    obtain ⟨q4, e5, hm⟩ := ob hm
    refine X_cS1 (kX12_in d (by omega) G e5) ml_X12_164 ms_X12_in rfl rfl (Nat.le_refl _) ⟨Nat.le_refl _, Nat.le_refl _⟩ (Nat.le_of_ble_eq_true rfl) dX12_ruled_11 ?_
    refine X_if_ne (tgt := 20) dX12_ruled_14 (by decide) (fun c6 => ?_) (fun c6 => ?_)
    · replace hm := iq c6 hm
      refine X_aload_n 0 dX12_ruled_20 rfl rfl rfl ?_
      obtain ⟨q7, e8, hm⟩ := ob hm
      refine X_cV0 (ci := 11) (kX12_keepsAll d (by omega) G e8) ml_X12_491 mi_X12_keepsAll rfl cf_11 (g_K123 G) rfl rfl (Nat.le_refl _) ⟨Nat.le_refl _, Nat.le_refl _⟩ (Nat.le_of_ble_eq_true rfl) dX12_ruled_21 ?_
      refine X_iconst (v := (0 : Int32)) dX12_ruled_24 (by decide) ?_
      refine X_istore_n (lv' := [(2, .int (0 : Int32)), (0, .ref 123), (1, .int a1)]) dX12_ruled_25 rfl (by decide) rfl ?_
      refine X_bipush (v := (-2 : Int32)) dX12_ruled_26 (by decide) ?_
      refine X_istore_n (lv' := [(3, .int (-2 : Int32)), (2, .int (0 : Int32)), (0, .ref 123), (1, .int a1)]) dX12_ruled_28 rfl (by decide) rfl ?_
      refine X_iconst (v := (-1 : Int32)) dX12_ruled_29 (by decide) ?_
      refine X_istore (lv' := [(4, .int (-1 : Int32)), (3, .int (-2 : Int32)), (2, .int (0 : Int32)), (0, .ref 123), (1, .int a1)]) dX12_ruled_30 (by decide) rfl ?_
      refine X_lv [3, 4, 2, 1, 0] rfl (kX12_ruled_32 _ hd G xf _ _ _ _ _ _  hm)
    · replace hm := ip c6 hm
      refine X_bipush (v := (-3 : Int32)) dX12_ruled_17 (by decide) ?_
      replace hm := Option.some.inj hm
      subst hm
      exact X_iret dX12_ruled_19 rfl
def mX12_look_33  (e55 : (Nat → Nat → Int32) → (Nat → Nat → Int64) → Int32 → Int32 → Option (Int32 × (Nat → Nat → Int32) × (Nat → Nat → Int64))) : Nat → (Nat → Nat → Int32) → (Nat → Nat → Int64) → Int32 → Int32 → Int32 → Option (Int32 × (Nat → Nat → Int32) × (Nat → Nat → Int64))
  | 0, _, _, _, _, _ => none
  | f + 1, I, L, a1, a2, a3 => (if (20 : Int32) ≤ a3 then (e55 I L a1 a2) else (if inb a3 20 = true then (mX12_look_33 e55 f (xu I 169 (ix a3) (0 : Int32)) L a1 a2 (a3 + 1)) else none))
set_option maxHeartbeats 400000 in
set_option maxRecDepth 100000 in
theorem kX12_look_33 {E : xE} {B : Nat} {n : Nat} {K : Nat → Nat × Nat} {P : Nat → Nat → Nat}  {e55 : (Nat → Nat → Int32) → (Nat → Nat → Int64) → Int32 → Int32 → Option (Int32 × (Nat → Nat → Int32) × (Nat → Nat → Int64))} {q : Int32 × (Nat → Nat → Int32) × (Nat → Nat → Int64)} (d : Nat) (hd : 9 ≤ d) (G : GW K P)  (he55 : ∀ (I : Nat → Nat → Int32) (L : Nat → Nat → Int64) (a1 : Int32) (a2 : Int32), e55 I L a1 a2 = some q → X E B d 0 0 yX12_look cX12_look 9 (some .int) (some (.int q.1), (n, K, P, q.2.1, q.2.2)) 55 [(0, .ref 123), (1, .int a1), (2, .int a2)] [] 0 0 (n, K, P, I, L)) : ∀ (f : Nat) (I : Nat → Nat → Int32) (L : Nat → Nat → Int64) (a1 : Int32) (a2 : Int32) (a3 : Int32), mX12_look_33 e55 f I L a1 a2 a3 = some q → X E B d 0 0 yX12_look cX12_look 9 (some .int) (some (.int q.1), (n, K, P, q.2.1, q.2.2)) 33 [(0, .ref 123), (1, .int a1), (2, .int a2), (3, .int a3)] [] 0 0 (n, K, P, I, L) := by
  obtain ⟨d, rfl⟩ : ∃ d0, d = d0 + 1 := ⟨d - 1, by omega⟩
  intro f
  induction f with
  | zero => intro _ _ _ _ _ hm; exact nomatch (show (none : Option (Int32 × (Nat → Nat → Int32) × (Nat → Nat → Int64))) = some q from hm)
  | succ f ih =>
    intro I L a1 a2 a3 hm
    rw [mX12_look_33] at hm
    refine X_iload_n 3 dX12_look_33 rfl rfl ?_
    refine X_aload_n 0 dX12_look_34 rfl rfl rfl ?_
    refine X_getPe fl_X12_151 (g_K123 G) rfl (g_P123_60 G) dX12_look_35 ?_
    refine X_alen (n := 20) (g_K169 G) (by decide) (by decide) dX12_look_38 ?_
    refine X_icmp_ge (tgt := 55) dX12_look_39 (by decide) (fun c10 => ?_) (fun c10 => ?_)
    · replace hm := ip c10 hm
      exact X_lv [0, 1, 2] rfl (he55 _ _ _ _ hm)
    · replace hm := iq c10 hm
      refine X_aload_n 0 dX12_look_42 rfl rfl rfl ?_
      refine X_getPe fl_X12_151 (g_K123 G) rfl (g_P123_60 G) dX12_look_43 ?_
      refine X_iload_n 3 dX12_look_46 rfl rfl ?_
      refine X_iconst (v := (0 : Int32)) dX12_look_47 (by decide) ?_
      obtain ⟨g11, hm⟩ := og hm
      refine X_iastJ (g_K169 G) g11 rfl dX12_look_48 ?_
      refine X_iinc (lv' := [(3, .int (a3 + 1)), (0, .ref 123), (1, .int a1), (2, .int a2)]) 3 dX12_look_49 rfl rfl (by decide) rfl ?_
      refine X_goto (tgt := 33) dX12_look_52 (by decide) ?_
      exact X_lv [1, 2, 3, 0] rfl (ih _ _ _ _ _ hm)
def mX12_look_89  (e129 : (Nat → Nat → Int32) → (Nat → Nat → Int64) → Int32 → Int32 → Int32 → Int32 → Option (Int32 × (Nat → Nat → Int32) × (Nat → Nat → Int64))) : Nat → (Nat → Nat → Int32) → (Nat → Nat → Int64) → Int32 → Int32 → Int32 → Int32 → Int32 → Option (Int32 × (Nat → Nat → Int32) × (Nat → Nat → Int64))
  | 0, _, _, _, _, _, _, _ => none
  | f + 1, I, L, a1, a2, a3, a4, a5 => (if (I 124 3) ≤ a5 then (e129 I L a1 a2 a3 a4) else (if inb a5 4 = true then (if inb ((((5 : Int32) * a5) + (I 168 (ix a5))) + (1 : Int32)) 20 = true then (if inb ((((5 : Int32) * a5) + (I 168 (ix a5))) + (1 : Int32)) 20 = true then (mX12_look_89 e129 f (xu I 169 (ix ((((5 : Int32) * a5) + (I 168 (ix a5))) + (1 : Int32))) ((I 169 (ix ((((5 : Int32) * a5) + (I 168 (ix a5))) + (1 : Int32)))) + (1 : Int32))) L a1 a2 a3 a4 (a5 + 1)) else none) else none) else none))
set_option maxHeartbeats 400000 in
set_option maxRecDepth 100000 in
theorem kX12_look_89 {E : xE} {B : Nat} {n : Nat} {K : Nat → Nat × Nat} {P : Nat → Nat → Nat}  {e129 : (Nat → Nat → Int32) → (Nat → Nat → Int64) → Int32 → Int32 → Int32 → Int32 → Option (Int32 × (Nat → Nat → Int32) × (Nat → Nat → Int64))} {q : Int32 × (Nat → Nat → Int32) × (Nat → Nat → Int64)} (d : Nat) (hd : 9 ≤ d) (G : GW K P)  (he129 : ∀ (I : Nat → Nat → Int32) (L : Nat → Nat → Int64) (a1 : Int32) (a2 : Int32) (a3 : Int32) (a4 : Int32), e129 I L a1 a2 a3 a4 = some q → X E B d 0 0 yX12_look cX12_look 9 (some .int) (some (.int q.1), (n, K, P, q.2.1, q.2.2)) 129 [(0, .ref 123), (1, .int a1), (2, .int a2), (3, .int a3), (4, .int a4)] [] 0 0 (n, K, P, I, L)) : ∀ (f : Nat) (I : Nat → Nat → Int32) (L : Nat → Nat → Int64) (a1 : Int32) (a2 : Int32) (a3 : Int32) (a4 : Int32) (a5 : Int32), mX12_look_89 e129 f I L a1 a2 a3 a4 a5 = some q → X E B d 0 0 yX12_look cX12_look 9 (some .int) (some (.int q.1), (n, K, P, q.2.1, q.2.2)) 89 [(0, .ref 123), (1, .int a1), (2, .int a2), (3, .int a3), (4, .int a4), (5, .int a5)] [] 0 0 (n, K, P, I, L) := by
  obtain ⟨d, rfl⟩ : ∃ d0, d = d0 + 1 := ⟨d - 1, by omega⟩
  intro f
  induction f with
  | zero => intro _ _ _ _ _ _ _ hm; exact nomatch (show (none : Option (Int32 × (Nat → Nat → Int32) × (Nat → Nat → Int64))) = some q from hm)
  | succ f ih =>
    intro I L a1 a2 a3 a4 a5 hm
    rw [mX12_look_89] at hm
    refine X_iload 5 dX12_look_89 rfl ?_
    refine X_aload_n 0 dX12_look_91 rfl rfl rfl ?_
    refine X_getPe fl_X12_9 (g_K123 G) rfl (g_P123_1 G) dX12_look_92 ?_
    refine X_iconst (v := (3 : Int32)) dX12_look_95 (by decide) ?_
    refine X_ialdJ (j := 3) (g_K124 G) rfl (by decide) dX12_look_96 ?_
    refine X_icmp_ge (tgt := 129) dX12_look_97 (by decide) (fun c19 => ?_) (fun c19 => ?_)
    · replace hm := ip c19 hm
      exact X_lv [0, 1, 2, 3, 4] rfl (he129 _ _ _ _ _ _ hm)
    · replace hm := iq c19 hm
      refine X_aload_n 0 dX12_look_100 rfl rfl rfl ?_
      refine X_getPe fl_X12_151 (g_K123 G) rfl (g_P123_60 G) dX12_look_101 ?_
      refine X_iconst (v := (5 : Int32)) dX12_look_104 (by decide) ?_
      refine X_iload 5 dX12_look_105 rfl ?_
      refine X_imul dX12_look_107 ?_
      refine X_aload_n 0 dX12_look_108 rfl rfl rfl ?_
      refine X_getPe fl_X12_148 (g_K123 G) rfl (g_P123_59 G) dX12_look_109 ?_
      refine X_iload 5 dX12_look_112 rfl ?_
      obtain ⟨g20, hm⟩ := og hm
      refine X_ialdJ (g_K168 G) g20 rfl dX12_look_114 ?_
      refine X_iadd dX12_look_115 ?_
      refine X_iconst (v := (1 : Int32)) dX12_look_116 (by decide) ?_
      refine X_iadd dX12_look_117 ?_
      refine X_dup2 dX12_look_118 rfl rfl ?_
      obtain ⟨g21, hm⟩ := og hm
      refine X_ialdJ (g_K169 G) g21 rfl dX12_look_119 ?_
      refine X_iconst (v := (1 : Int32)) dX12_look_120 (by decide) ?_
      refine X_iadd dX12_look_121 ?_
      obtain ⟨g22, hm⟩ := og hm
      refine X_iastJ (g_K169 G) g22 rfl dX12_look_122 ?_
      refine X_iinc (lv' := [(5, .int (a5 + 1)), (0, .ref 123), (1, .int a1), (2, .int a2), (3, .int a3), (4, .int a4)]) 5 dX12_look_123 rfl rfl (by decide) rfl ?_
      refine X_goto (tgt := 89) dX12_look_126 (by decide) ?_
      exact X_lv [1, 2, 3, 4, 5, 0] rfl (ih _ _ _ _ _ _ _ hm)
def mX12_look_64  (e135 : (Nat → Nat → Int32) → (Nat → Nat → Int64) → Int32 → Int32 → Option (Int32 × (Nat → Nat → Int32) × (Nat → Nat → Int64))) : Nat → (Nat → Nat → Int32) → (Nat → Nat → Int64) → Int32 → Int32 → Int32 → Int32 → Option (Int32 × (Nat → Nat → Int32) × (Nat → Nat → Int64))
  | 0, _, _, _, _, _, _ => none
  | f + 1, I, L, a1, a2, a3, a4 => (if (I 123 31) ≤ a4 then (e135 I L a2 a3) else (Option.bind (mX12_couldRule I L a4 a1) (fun q16 => (if q16.1 = 0 then (mX12_look_64 e135 f q16.2.1 q16.2.2 a1 a2 a3 (a4 + 1)) else (mX12_look_89 (fun (I_23 : (Nat → Nat → Int32)) (L_23 : (Nat → Nat → Int64)) (a1_23 : Int32) (a2_23 : Int32) (a3_23 : Int32) (a4_23 : Int32) => (mX12_look_64 e135 f I_23 L_23 a1_23 a2_23 a3_23 (a4_23 + 1))) xf q16.2.1 q16.2.2 a1 a2 (a3 + 1) a4 (0 : Int32))))))
set_option maxHeartbeats 400000 in
set_option maxRecDepth 100000 in
theorem kX12_look_64 {E : xE} {B : Nat} {n : Nat} {K : Nat → Nat × Nat} {P : Nat → Nat → Nat}  {e135 : (Nat → Nat → Int32) → (Nat → Nat → Int64) → Int32 → Int32 → Option (Int32 × (Nat → Nat → Int32) × (Nat → Nat → Int64))} {q : Int32 × (Nat → Nat → Int32) × (Nat → Nat → Int64)} (d : Nat) (hd : 9 ≤ d) (G : GW K P)  (he135 : ∀ (I : Nat → Nat → Int32) (L : Nat → Nat → Int64) (a2 : Int32) (a3 : Int32), e135 I L a2 a3 = some q → X E B d 0 0 yX12_look cX12_look 9 (some .int) (some (.int q.1), (n, K, P, q.2.1, q.2.2)) 135 [(0, .ref 123), (2, .int a2), (3, .int a3)] [] 0 0 (n, K, P, I, L)) : ∀ (f : Nat) (I : Nat → Nat → Int32) (L : Nat → Nat → Int64) (a1 : Int32) (a2 : Int32) (a3 : Int32) (a4 : Int32), mX12_look_64 e135 f I L a1 a2 a3 a4 = some q → X E B d 0 0 yX12_look cX12_look 9 (some .int) (some (.int q.1), (n, K, P, q.2.1, q.2.2)) 64 [(0, .ref 123), (1, .int a1), (2, .int a2), (3, .int a3), (4, .int a4)] [] 0 0 (n, K, P, I, L) := by
  obtain ⟨d, rfl⟩ : ∃ d0, d = d0 + 1 := ⟨d - 1, by omega⟩
  intro f
  induction f with
  | zero => intro _ _ _ _ _ _ hm; exact nomatch (show (none : Option (Int32 × (Nat → Nat → Int32) × (Nat → Nat → Int64))) = some q from hm)
  | succ f ih =>
    intro I L a1 a2 a3 a4 hm
    rw [mX12_look_64] at hm
    refine X_iload 4 dX12_look_64 rfl ?_
    refine X_aload_n 0 dX12_look_66 rfl rfl rfl ?_
    refine X_getI fl_X12_362 (g_K123 G) rfl dX12_look_67 ?_
    refine X_icmp_ge (tgt := 135) dX12_look_70 (by decide) (fun c15 => ?_) (fun c15 => ?_)
    · replace hm := ip c15 hm
      exact X_lv [0, 2, 3] rfl (he135 _ _ _ _ hm)
    · replace hm := iq c15 hm
      refine X_aload_n 0 dX12_look_73 rfl rfl rfl ?_
      refine X_iload 4 dX12_look_74 rfl ?_
      refine X_iload_n 1 dX12_look_76 rfl rfl ?_
      obtain ⟨q16, e17, hm⟩ := ob hm
      refine X_cV1 (ci := 11) (kX12_couldRule d (by omega) G e17) ml_X12_548 mi_X12_couldRule rfl cf_11 (g_K123 G) rfl rfl (Nat.le_refl _) ⟨Nat.le_refl _, Nat.le_refl _⟩ (Nat.le_of_ble_eq_true rfl) dX12_look_77 ?_
      refine X_if_eq (tgt := 129) dX12_look_80 (by decide) (fun c18 => ?_) (fun c18 => ?_)
      · replace hm := ip c18 hm
        refine X_iinc (lv' := [(4, .int (a4 + 1)), (0, .ref 123), (1, .int a1), (2, .int a2), (3, .int a3)]) 4 dX12_look_129 rfl rfl (by decide) rfl ?_
        refine X_goto (tgt := 64) dX12_look_132 (by decide) ?_
        exact X_lv [1, 2, 3, 4, 0] rfl (ih _ _ _ _ _ _ hm)
      · replace hm := iq c18 hm
        refine X_iinc (lv' := [(3, .int (a3 + 1)), (0, .ref 123), (1, .int a1), (2, .int a2), (4, .int a4)]) 3 dX12_look_83 rfl rfl (by decide) rfl ?_
        refine X_iconst (v := (0 : Int32)) dX12_look_86 (by decide) ?_
        refine X_istore (lv' := [(5, .int (0 : Int32)), (3, .int (a3 + 1)), (0, .ref 123), (1, .int a1), (2, .int a2), (4, .int a4)]) dX12_look_87 (by decide) rfl ?_
        refine X_lv [2, 3, 4, 1, 5, 0] rfl (kX12_look_89 _ hd G (fun I_23 L_23 a1_23 a2_23 a3_23 a4_23 hm => ?_) xf _ _ _ _ _ _ _  hm)
        refine X_iinc (lv' := [(4, .int (a4_23 + 1)), (0, .ref 123), (1, .int a1_23), (2, .int a2_23), (3, .int a3_23)]) 4 dX12_look_129 rfl rfl (by decide) rfl ?_
        refine X_goto (tgt := 64) dX12_look_132 (by decide) ?_
        exact X_lv [1, 2, 3, 4, 0] rfl (ih _ _ _ _ _ _ hm)
def mX12_look_170  (e213 : (Nat → Nat → Int32) → (Nat → Nat → Int64) → Int32 → Int32 → Int32 → Int32 → Int32 → Int32 → Option (Int32 × (Nat → Nat → Int32) × (Nat → Nat → Int64))) : Nat → (Nat → Nat → Int32) → (Nat → Nat → Int64) → Int32 → Int32 → Int32 → Int32 → Int32 → Int32 → Int32 → Option (Int32 × (Nat → Nat → Int32) × (Nat → Nat → Int64))
  | 0, _, _, _, _, _, _, _, _, _ => none
  | f + 1, I, L, a2, a3, a4, a5, a6, a7, a8 => (if ((5 : Int32) * (a6 + (1 : Int32))) ≤ a8 then (e213 I L a2 a3 a4 a5 a6 a7) else (if inb a8 20 = true then (if (I 169 (ix a8)) ≤ a7 then (mX12_look_170 e213 f I L a2 a3 a4 a5 a6 a7 (a8 + 1)) else (if inb a8 20 = true then (mX12_look_170 e213 f I L a2 a3 a4 a5 a6 (I 169 (ix a8)) (a8 + 1)) else none)) else none))
set_option maxHeartbeats 400000 in
set_option maxRecDepth 100000 in
theorem kX12_look_170 {E : xE} {B : Nat} {n : Nat} {K : Nat → Nat × Nat} {P : Nat → Nat → Nat}  {e213 : (Nat → Nat → Int32) → (Nat → Nat → Int64) → Int32 → Int32 → Int32 → Int32 → Int32 → Int32 → Option (Int32 × (Nat → Nat → Int32) × (Nat → Nat → Int64))} {q : Int32 × (Nat → Nat → Int32) × (Nat → Nat → Int64)} (d : Nat) (hd : 9 ≤ d) (G : GW K P)  (he213 : ∀ (I : Nat → Nat → Int32) (L : Nat → Nat → Int64) (a2 : Int32) (a3 : Int32) (a4 : Int32) (a5 : Int32) (a6 : Int32) (a7 : Int32), e213 I L a2 a3 a4 a5 a6 a7 = some q → X E B d 0 0 yX12_look cX12_look 9 (some .int) (some (.int q.1), (n, K, P, q.2.1, q.2.2)) 213 [(0, .ref 123), (2, .int a2), (3, .int a3), (4, .int a4), (5, .int a5), (6, .int a6), (7, .int a7)] [] 0 0 (n, K, P, I, L)) : ∀ (f : Nat) (I : Nat → Nat → Int32) (L : Nat → Nat → Int64) (a2 : Int32) (a3 : Int32) (a4 : Int32) (a5 : Int32) (a6 : Int32) (a7 : Int32) (a8 : Int32), mX12_look_170 e213 f I L a2 a3 a4 a5 a6 a7 a8 = some q → X E B d 0 0 yX12_look cX12_look 9 (some .int) (some (.int q.1), (n, K, P, q.2.1, q.2.2)) 170 [(0, .ref 123), (2, .int a2), (3, .int a3), (4, .int a4), (5, .int a5), (6, .int a6), (7, .int a7), (8, .int a8)] [] 0 0 (n, K, P, I, L) := by
  obtain ⟨d, rfl⟩ : ∃ d0, d = d0 + 1 := ⟨d - 1, by omega⟩
  intro f
  induction f with
  | zero => intro _ _ _ _ _ _ _ _ _ hm; exact nomatch (show (none : Option (Int32 × (Nat → Nat → Int32) × (Nat → Nat → Int64))) = some q from hm)
  | succ f ih =>
    intro I L a2 a3 a4 a5 a6 a7 a8 hm
    rw [mX12_look_170] at hm
    refine X_iload 7 dX12_look_170 rfl ?_
    refine X_iconst (v := (5 : Int32)) dX12_look_172 (by decide) ?_
    refine X_iload 5 dX12_look_173 rfl ?_
    refine X_iconst (v := (1 : Int32)) dX12_look_175 (by decide) ?_
    refine X_iadd dX12_look_176 ?_
    refine X_imul dX12_look_177 ?_
    refine X_icmp_ge (tgt := 213) dX12_look_178 (by decide) (fun c29 => ?_) (fun c29 => ?_)
    · replace hm := ip c29 hm
      exact X_lv [0, 1, 2, 3, 4, 5, 6] rfl (he213 _ _ _ _ _ _ _ _ hm)
    · replace hm := iq c29 hm
      refine X_aload_n 0 dX12_look_181 rfl rfl rfl ?_
      refine X_getPe fl_X12_151 (g_K123 G) rfl (g_P123_60 G) dX12_look_182 ?_
      refine X_iload 7 dX12_look_185 rfl ?_
      obtain ⟨g30, hm⟩ := og hm
      refine X_ialdJ (g_K169 G) g30 rfl dX12_look_187 ?_
      refine X_iload 6 dX12_look_188 rfl ?_
      refine X_icmp_le (tgt := 203) dX12_look_190 (by decide) (fun c31 => ?_) (fun c31 => ?_)
      · replace hm := ip c31 hm
        refine X_iload 6 dX12_look_203 rfl ?_
        refine X_istore (lv' := [(7, .int a7), (0, .ref 123), (2, .int a2), (3, .int a3), (4, .int a4), (5, .int a5), (6, .int a6), (8, .int a8)]) dX12_look_205 (by decide) rfl ?_
        refine X_iinc (lv' := [(8, .int (a8 + 1)), (7, .int a7), (0, .ref 123), (2, .int a2), (3, .int a3), (4, .int a4), (5, .int a5), (6, .int a6)]) 7 dX12_look_207 rfl rfl (by decide) rfl ?_
        refine X_goto (tgt := 170) dX12_look_210 (by decide) ?_
        exact X_lv [2, 3, 4, 5, 6, 7, 1, 0] rfl (ih _ _ _ _ _ _ _ _ _ hm)
      · replace hm := iq c31 hm
        refine X_aload_n 0 dX12_look_193 rfl rfl rfl ?_
        refine X_getPe fl_X12_151 (g_K123 G) rfl (g_P123_60 G) dX12_look_194 ?_
        refine X_iload 7 dX12_look_197 rfl ?_
        obtain ⟨g32, hm⟩ := og hm
        refine X_ialdJ (g_K169 G) g32 rfl dX12_look_199 ?_
        refine X_goto (tgt := 205) dX12_look_200 (by decide) ?_
        refine X_istore (lv' := [(7, .int (I 169 (ix a8))), (0, .ref 123), (2, .int a2), (3, .int a3), (4, .int a4), (5, .int a5), (6, .int a6), (8, .int a8)]) dX12_look_205 (by decide) rfl ?_
        refine X_iinc (lv' := [(8, .int (a8 + 1)), (7, .int (I 169 (ix a8))), (0, .ref 123), (2, .int a2), (3, .int a3), (4, .int a4), (5, .int a5), (6, .int a6)]) 7 dX12_look_207 rfl rfl (by decide) rfl ?_
        refine X_goto (tgt := 170) dX12_look_210 (by decide) ?_
        exact X_lv [2, 3, 4, 5, 6, 7, 1, 0] rfl (ih _ _ _ _ _ _ _ _ _ hm)
def mX12_look_146   : Nat → (Nat → Nat → Int32) → (Nat → Nat → Int64) → Int32 → Int32 → Int32 → Int32 → Int32 → Option (Int32 × (Nat → Nat → Int32) × (Nat → Nat → Int64))
  | 0, _, _, _, _, _, _, _ => none
  | f + 1, I, L, a2, a3, a4, a5, a6 => (if (I 124 3) ≤ a6 then (if a2 = 0 then (some (a4, I, L)) else (some (a5, I, L))) else (if a3 ≤ 0 then (if a2 = 0 then (some (a4, I, L)) else (some (a5, I, L))) else (mX12_look_170 (fun (I_33 : (Nat → Nat → Int32)) (L_33 : (Nat → Nat → Int64)) (a2_33 : Int32) (a3_33 : Int32) (a4_33 : Int32) (a5_33 : Int32) (a6_33 : Int32) (a7_33 : Int32) => (if a4_33 = (-2 : Int32) then (mX12_look_146 f I_33 L_33 a2_33 a3_33 a6_33 a7_33 (a6_33 + 1)) else (if a5_33 ≤ a7_33 then (mX12_look_146 f I_33 L_33 a2_33 a3_33 a4_33 a5_33 (a6_33 + 1)) else (mX12_look_146 f I_33 L_33 a2_33 a3_33 a6_33 a7_33 (a6_33 + 1))))) xf I L a2 a3 a4 a5 a6 (0 : Int32) ((5 : Int32) * a6))))
set_option maxHeartbeats 400000 in
set_option maxRecDepth 100000 in
theorem kX12_look_146 {E : xE} {B : Nat} {n : Nat} {K : Nat → Nat × Nat} {P : Nat → Nat → Nat}   {q : Int32 × (Nat → Nat → Int32) × (Nat → Nat → Int64)} (d : Nat) (hd : 9 ≤ d) (G : GW K P)   : ∀ (f : Nat) (I : Nat → Nat → Int32) (L : Nat → Nat → Int64) (a2 : Int32) (a3 : Int32) (a4 : Int32) (a5 : Int32) (a6 : Int32), mX12_look_146 f I L a2 a3 a4 a5 a6 = some q → X E B d 0 0 yX12_look cX12_look 9 (some .int) (some (.int q.1), (n, K, P, q.2.1, q.2.2)) 146 [(0, .ref 123), (2, .int a2), (3, .int a3), (4, .int a4), (5, .int a5), (6, .int a6)] [] 0 0 (n, K, P, I, L) := by
  obtain ⟨d, rfl⟩ : ∃ d0, d = d0 + 1 := ⟨d - 1, by omega⟩
  intro f
  induction f with
  | zero => intro _ _ _ _ _ _ _ hm; exact nomatch (show (none : Option (Int32 × (Nat → Nat → Int32) × (Nat → Nat → Int64))) = some q from hm)
  | succ f ih =>
    intro I L a2 a3 a4 a5 a6 hm
    rw [mX12_look_146] at hm
    refine X_iload 5 dX12_look_146 rfl ?_
    refine X_aload_n 0 dX12_look_148 rfl rfl rfl ?_
    refine X_getPe fl_X12_9 (g_K123 G) rfl (g_P123_1 G) dX12_look_149 ?_
    refine X_iconst (v := (3 : Int32)) dX12_look_152 (by decide) ?_
    refine X_ialdJ (j := 3) (g_K124 G) rfl (by decide) dX12_look_153 ?_
    refine X_icmp_ge (tgt := 241) dX12_look_154 (by decide) (fun c25 => ?_) (fun c25 => ?_)
    · replace hm := ip c25 hm
      refine X_iload_n 1 dX12_look_241 rfl rfl ?_
      refine X_if_ne (tgt := 250) dX12_look_242 (by decide) (fun c26 => ?_) (fun c26 => ?_)
      · replace hm := iq c26 hm
        refine X_iload 4 dX12_look_250 rfl ?_
        replace hm := Option.some.inj hm
        subst hm
        exact X_iret dX12_look_252 rfl
      · replace hm := ip c26 hm
        refine X_iload 3 dX12_look_245 rfl ?_
        refine X_goto (tgt := 252) dX12_look_247 (by decide) ?_
        replace hm := Option.some.inj hm
        subst hm
        exact X_iret dX12_look_252 rfl
    · replace hm := iq c25 hm
      refine X_iload_n 2 dX12_look_157 rfl rfl ?_
      refine X_if_le (tgt := 241) dX12_look_158 (by decide) (fun c27 => ?_) (fun c27 => ?_)
      · replace hm := ip c27 hm
        refine X_iload_n 1 dX12_look_241 rfl rfl ?_
        refine X_if_ne (tgt := 250) dX12_look_242 (by decide) (fun c28 => ?_) (fun c28 => ?_)
        · replace hm := iq c28 hm
          refine X_iload 4 dX12_look_250 rfl ?_
          replace hm := Option.some.inj hm
          subst hm
          exact X_iret dX12_look_252 rfl
        · replace hm := ip c28 hm
          refine X_iload 3 dX12_look_245 rfl ?_
          refine X_goto (tgt := 252) dX12_look_247 (by decide) ?_
          replace hm := Option.some.inj hm
          subst hm
          exact X_iret dX12_look_252 rfl
      · replace hm := iq c27 hm
        refine X_iconst (v := (0 : Int32)) dX12_look_161 (by decide) ?_
        refine X_istore (lv' := [(7, .int (0 : Int32)), (0, .ref 123), (2, .int a2), (3, .int a3), (4, .int a4), (5, .int a5), (6, .int a6)]) dX12_look_162 (by decide) rfl ?_
        refine X_iconst (v := (5 : Int32)) dX12_look_164 (by decide) ?_
        refine X_iload 6 dX12_look_165 rfl ?_
        refine X_imul dX12_look_167 ?_
        refine X_istore (lv' := [(8, .int ((5 : Int32) * a6)), (7, .int (0 : Int32)), (0, .ref 123), (2, .int a2), (3, .int a3), (4, .int a4), (5, .int a5), (6, .int a6)]) dX12_look_168 (by decide) rfl ?_
        refine X_lv [2, 3, 4, 5, 6, 7, 1, 0] rfl (kX12_look_170 _ hd G (fun I_33 L_33 a2_33 a3_33 a4_33 a5_33 a6_33 a7_33 hm => ?_) xf _ _ _ _ _ _ _ _ _  hm)
        refine X_iload 3 dX12_look_213 rfl ?_
        refine X_bipush (v := (-2 : Int32)) dX12_look_215 (by decide) ?_
        refine X_icmp_eq (tgt := 227) dX12_look_217 (by decide) (fun c34 => ?_) (fun c34 => ?_)
        · replace hm := ip c34 hm
          refine X_iload 5 dX12_look_227 rfl ?_
          refine X_istore (lv' := [(4, .int a6_33), (0, .ref 123), (2, .int a2_33), (3, .int a3_33), (5, .int a5_33), (6, .int a6_33), (7, .int a7_33)]) dX12_look_229 (by decide) rfl ?_
          refine X_iload 6 dX12_look_231 rfl ?_
          refine X_istore (lv' := [(5, .int a7_33), (4, .int a6_33), (0, .ref 123), (2, .int a2_33), (3, .int a3_33), (6, .int a6_33), (7, .int a7_33)]) dX12_look_233 (by decide) rfl ?_
          refine X_iinc (lv' := [(6, .int (a6_33 + 1)), (5, .int a7_33), (4, .int a6_33), (0, .ref 123), (2, .int a2_33), (3, .int a3_33), (7, .int a7_33)]) 5 dX12_look_235 rfl rfl (by decide) rfl ?_
          refine X_goto (tgt := 146) dX12_look_238 (by decide) ?_
          exact X_lv [3, 4, 5, 2, 1, 0] rfl (ih _ _ _ _ _ _ _ hm)
        · replace hm := iq c34 hm
          refine X_iload 6 dX12_look_220 rfl ?_
          refine X_iload 4 dX12_look_222 rfl ?_
          refine X_icmp_ge (tgt := 235) dX12_look_224 (by decide) (fun c35 => ?_) (fun c35 => ?_)
          · replace hm := ip c35 hm
            refine X_iinc (lv' := [(6, .int (a6_33 + 1)), (0, .ref 123), (2, .int a2_33), (3, .int a3_33), (4, .int a4_33), (5, .int a5_33), (7, .int a7_33)]) 5 dX12_look_235 rfl rfl (by decide) rfl ?_
            refine X_goto (tgt := 146) dX12_look_238 (by decide) ?_
            exact X_lv [1, 2, 3, 4, 5, 0] rfl (ih _ _ _ _ _ _ _ hm)
          · replace hm := iq c35 hm
            refine X_iload 5 dX12_look_227 rfl ?_
            refine X_istore (lv' := [(4, .int a6_33), (0, .ref 123), (2, .int a2_33), (3, .int a3_33), (5, .int a5_33), (6, .int a6_33), (7, .int a7_33)]) dX12_look_229 (by decide) rfl ?_
            refine X_iload 6 dX12_look_231 rfl ?_
            refine X_istore (lv' := [(5, .int a7_33), (4, .int a6_33), (0, .ref 123), (2, .int a2_33), (3, .int a3_33), (6, .int a6_33), (7, .int a7_33)]) dX12_look_233 (by decide) rfl ?_
            refine X_iinc (lv' := [(6, .int (a6_33 + 1)), (5, .int a7_33), (4, .int a6_33), (0, .ref 123), (2, .int a2_33), (3, .int a3_33), (7, .int a7_33)]) 5 dX12_look_235 rfl rfl (by decide) rfl ?_
            refine X_goto (tgt := 146) dX12_look_238 (by decide) ?_
            exact X_lv [3, 4, 5, 2, 1, 0] rfl (ih _ _ _ _ _ _ _ hm)
def mX12_look  (I : Nat → Nat → Int32) (L : Nat → Nat → Int64) (a1 : Int32) (a2 : Int32) : Option (Int32 × (Nat → Nat → Int32) × (Nat → Nat → Int64)) := (Option.bind (mX12_isStreet I) (fun q1 => (if q1 = 0 then (some ((-1 : Int32), I, L)) else (Option.bind (mX12_in a1.toInt64 (0 : Int64) (99 : Int64)) (fun q4 => (if q4 = 0 then (some ((-1 : Int32), I, L)) else (Option.bind (mX12_in a2.toInt64 (0 : Int64) (1 : Int64)) (fun q7 => (if q7 = 0 then (some ((-1 : Int32), I, L)) else (mX12_look_33 (fun (I_12 : (Nat → Nat → Int32)) (L_12 : (Nat → Nat → Int64)) (a1_12 : Int32) (a2_12 : Int32) => (Option.bind (mX12_keepsAll I_12) (fun q13 => (mX12_look_64 (fun (I_24 : (Nat → Nat → Int32)) (L_24 : (Nat → Nat → Int64)) (a2_24 : Int32) (a3_24 : Int32) => (mX12_look_146 xf I_24 L_24 a2_24 a3_24 (-2 : Int32) (-2 : Int32) (0 : Int32))) xf q13 L_12 a1_12 a2_12 (0 : Int32) (-1 : Int32))))) xf I L a1 a2 (0 : Int32)))))))))))
set_option maxHeartbeats 400000 in
set_option maxRecDepth 100000 in
theorem kX12_look {E : xE} {B : Nat} {n : Nat} {K : Nat → Nat × Nat} {P : Nat → Nat → Nat} {I : Nat → Nat → Int32} {L : Nat → Nat → Int64}  {a1 : Int32} {a2 : Int32} {q : Int32 × (Nat → Nat → Int32) × (Nat → Nat → Int64)} (d : Nat) (hd : 9 ≤ d) (G : GW K P)   (hm : mX12_look I L a1 a2 = some q) : MX E B d 0 0 yX12_look cX12_look 9 (some .int) [.ref 123, .int a1, .int a2] (n, K, P, I, L) (some (.int q.1), (n, K, P, q.2.1, q.2.2)) := by
  refine MX_of (lv := [(0, .ref 123), (1, .int a1), (2, .int a2)]) (by decide +kernel) (Nat.le_of_ble_eq_true rfl) rfl ?_
  obtain ⟨d, rfl⟩ : ∃ d0, d = d0 + 1 := ⟨d - 1, by omega⟩
  unfold mX12_look at hm
  refine X_aload_n 0 dX12_look_0 rfl rfl rfl ?_
  obtain ⟨q1, e2, hm⟩ := ob hm
  refine X_cV1 (ci := 11) (kX12_isStreet d (by omega) G e2) ml_X12_429 mi_X12_isStreet rfl cf_11 (g_K123 G) rfl rfl (Nat.le_refl _) ⟨Nat.le_refl _, Nat.le_refl _⟩ (Nat.le_of_ble_eq_true rfl) dX12_look_1 ?_
  refine X_if_eq (tgt := 29) dX12_look_4 (by decide) (fun c3 => ?_) (fun c3 => ?_)
  · replace hm := ip c3 hm
    refine X_iconst (v := (-1 : Int32)) dX12_look_29 (by decide) ?_
    replace hm := Option.some.inj hm
    subst hm
    exact X_iret dX12_look_30 rfl
  · replace hm := iq c3 hm
    refine X_iload_n 1 dX12_look_7 rfl rfl ?_
    refine X_i2l dX12_look_8 ?_
    refine X_lconst (v := (0 : Int64)) dX12_look_9 (by decide) ?_
    refine X_ldc2 lc_X12_543 dX12_look_10 ?_
    obtain ⟨q4, e5, hm⟩ := ob hm
    refine X_cS1 (kX12_in d (by omega) G e5) ml_X12_164 ms_X12_in rfl rfl (Nat.le_refl _) ⟨Nat.le_refl _, Nat.le_refl _⟩ (Nat.le_of_ble_eq_true rfl) dX12_look_13 ?_
    refine X_if_eq (tgt := 29) dX12_look_16 (by decide) (fun c6 => ?_) (fun c6 => ?_)
    · replace hm := ip c6 hm
      refine X_iconst (v := (-1 : Int32)) dX12_look_29 (by decide) ?_
      replace hm := Option.some.inj hm
      subst hm
      exact X_iret dX12_look_30 rfl
    · replace hm := iq c6 hm
      refine X_iload_n 2 dX12_look_19 rfl rfl ?_
      refine X_i2l dX12_look_20 ?_
      refine X_lconst (v := (0 : Int64)) dX12_look_21 (by decide) ?_
      refine X_lconst (v := (1 : Int64)) dX12_look_22 (by decide) ?_
      obtain ⟨q7, e8, hm⟩ := ob hm
      refine X_cS1 (kX12_in d (by omega) G e8) ml_X12_164 ms_X12_in rfl rfl (Nat.le_refl _) ⟨Nat.le_refl _, Nat.le_refl _⟩ (Nat.le_of_ble_eq_true rfl) dX12_look_23 ?_
      refine X_if_ne (tgt := 31) dX12_look_26 (by decide) (fun c9 => ?_) (fun c9 => ?_)
      · replace hm := iq c9 hm
        refine X_iconst (v := (0 : Int32)) dX12_look_31 (by decide) ?_
        refine X_istore_n (lv' := [(3, .int (0 : Int32)), (0, .ref 123), (1, .int a1), (2, .int a2)]) dX12_look_32 rfl (by decide) rfl ?_
        refine X_lv [1, 2, 3, 0] rfl (kX12_look_33 _ hd G (fun I_12 L_12 a1_12 a2_12 hm => ?_) xf _ _ _ _ _  hm)
        refine X_aload_n 0 dX12_look_55 rfl rfl rfl ?_
        obtain ⟨q13, e14, hm⟩ := ob hm
        refine X_cV0 (ci := 11) (kX12_keepsAll d (by omega) G e14) ml_X12_491 mi_X12_keepsAll rfl cf_11 (g_K123 G) rfl rfl (Nat.le_refl _) ⟨Nat.le_refl _, Nat.le_refl _⟩ (Nat.le_of_ble_eq_true rfl) dX12_look_56 ?_
        refine X_iconst (v := (0 : Int32)) dX12_look_59 (by decide) ?_
        refine X_istore_n (lv' := [(3, .int (0 : Int32)), (0, .ref 123), (1, .int a1_12), (2, .int a2_12)]) dX12_look_60 rfl (by decide) rfl ?_
        refine X_iconst (v := (-1 : Int32)) dX12_look_61 (by decide) ?_
        refine X_istore (lv' := [(4, .int (-1 : Int32)), (3, .int (0 : Int32)), (0, .ref 123), (1, .int a1_12), (2, .int a2_12)]) dX12_look_62 (by decide) rfl ?_
        refine X_lv [2, 3, 4, 1, 0] rfl (kX12_look_64 _ hd G (fun I_24 L_24 a2_24 a3_24 hm => ?_) xf _ _ _ _ _ _  hm)
        refine X_bipush (v := (-2 : Int32)) dX12_look_135 (by decide) ?_
        refine X_istore (lv' := [(4, .int (-2 : Int32)), (0, .ref 123), (2, .int a2_24), (3, .int a3_24)]) dX12_look_137 (by decide) rfl ?_
        refine X_bipush (v := (-2 : Int32)) dX12_look_139 (by decide) ?_
        refine X_istore (lv' := [(5, .int (-2 : Int32)), (4, .int (-2 : Int32)), (0, .ref 123), (2, .int a2_24), (3, .int a3_24)]) dX12_look_141 (by decide) rfl ?_
        refine X_iconst (v := (0 : Int32)) dX12_look_143 (by decide) ?_
        refine X_istore (lv' := [(6, .int (0 : Int32)), (5, .int (-2 : Int32)), (4, .int (-2 : Int32)), (0, .ref 123), (2, .int a2_24), (3, .int a3_24)]) dX12_look_144 (by decide) rfl ?_
        refine X_lv [3, 4, 5, 2, 1, 0] rfl (kX12_look_146 _ hd G xf _ _ _ _ _ _ _  hm)
      · replace hm := ip c9 hm
        refine X_iconst (v := (-1 : Int32)) dX12_look_29 (by decide) ?_
        replace hm := Option.some.inj hm
        subst hm
        exact X_iret dX12_look_30 rfl
def mX12_seed  (I : Nat → Nat → Int32) (a1 : Int32) : Option (Int32 × (Nat → Nat → Int32)) := (if 0 ≤ a1 then (some ((I 124 11), (xu I 124 11 a1))) else (some ((-1 : Int32), I)))
set_option maxHeartbeats 400000 in
set_option maxRecDepth 100000 in
theorem kX12_seed {E : xE} {B : Nat} {n : Nat} {K : Nat → Nat × Nat} {P : Nat → Nat → Nat} {I : Nat → Nat → Int32} {L : Nat → Nat → Int64}  {a1 : Int32} {q : Int32 × (Nat → Nat → Int32)} (d : Nat) (hd : 0 ≤ d) (G : GW K P)   (hm : mX12_seed I a1 = some q) : MX E B d 0 0 yX12_seed cX12_seed 3 (some .int) [.ref 123, .int a1] (n, K, P, I, L) (some (.int q.1), (n, K, P, q.2, L)) := by
  refine MX_of (lv := [(0, .ref 123), (1, .int a1)]) (by decide +kernel) (Nat.le_of_ble_eq_true rfl) rfl ?_
  unfold mX12_seed at hm
  refine X_iload_n 1 dX12_seed_0 rfl rfl ?_
  refine X_if_ge (tgt := 6) dX12_seed_1 (by decide) (fun c1 => ?_) (fun c1 => ?_)
  · replace hm := ip c1 hm
    refine X_aload_n 0 dX12_seed_6 rfl rfl rfl ?_
    refine X_getPe fl_X12_9 (g_K123 G) rfl (g_P123_1 G) dX12_seed_7 ?_
    refine X_bipush (v := (11 : Int32)) dX12_seed_10 (by decide) ?_
    refine X_ialdJ (j := 11) (g_K124 G) rfl (by decide) dX12_seed_12 ?_
    refine X_istore_n (lv' := [(2, .int (I 124 11)), (0, .ref 123), (1, .int a1)]) dX12_seed_13 rfl (by decide) rfl ?_
    refine X_aload_n 1 dX12_seed_14 rfl rfl rfl ?_
    refine X_getPe fl_X12_9 (g_K123 G) rfl (g_P123_1 G) dX12_seed_15 ?_
    refine X_bipush (v := (11 : Int32)) dX12_seed_18 (by decide) ?_
    refine X_iload_n 2 dX12_seed_20 rfl rfl ?_
    refine X_iastJ (j := 11) (g_K124 G) rfl (by decide) dX12_seed_21 ?_
    refine X_iload_n 0 dX12_seed_22 rfl rfl ?_
    replace hm := Option.some.inj hm
    subst hm
    exact X_iret dX12_seed_23 rfl
  · replace hm := iq c1 hm
    refine X_iconst (v := (-1 : Int32)) dX12_seed_4 (by decide) ?_
    replace hm := Option.some.inj hm
    subst hm
    exact X_iret dX12_seed_5 rfl
def mX12_draws  (I : Nat → Nat → Int32) (a1 : Int32) : Option (Int32 × (Nat → Nat → Int32)) := (if ¬ a1 = 0 then (some ((xrem (((xu I 124 11 (xlrem (((I 124 11).toInt64 * (1103515245 : Int64)) + (12345 : Int64)) (2147483648 : Int64)).toInt32) 124 11) / (65536 : Int32)) a1), (xu I 124 11 (xlrem (((I 124 11).toInt64 * (1103515245 : Int64)) + (12345 : Int64)) (2147483648 : Int64)).toInt32))) else none)
set_option maxHeartbeats 400000 in
set_option maxRecDepth 100000 in
theorem kX12_draws {E : xE} {B : Nat} {n : Nat} {K : Nat → Nat × Nat} {P : Nat → Nat → Nat} {I : Nat → Nat → Int32} {L : Nat → Nat → Int64}  {a1 : Int32} {q : Int32 × (Nat → Nat → Int32)} (d : Nat) (hd : 0 ≤ d) (G : GW K P)   (hm : mX12_draws I a1 = some q) : MX E B d 0 0 yX12_draws cX12_draws 2 (some .int) [.ref 123, .int a1] (n, K, P, I, L) (some (.int q.1), (n, K, P, q.2, L)) := by
  refine MX_of (lv := [(0, .ref 123), (1, .int a1)]) (by decide +kernel) (Nat.le_of_ble_eq_true rfl) rfl ?_
  unfold mX12_draws at hm
  refine X_aload_n 0 dX12_draws_0 rfl rfl rfl ?_
  refine X_getPe fl_X12_9 (g_K123 G) rfl (g_P123_1 G) dX12_draws_1 ?_
  refine X_bipush (v := (11 : Int32)) dX12_draws_4 (by decide) ?_
  refine X_aload_n 0 dX12_draws_6 rfl rfl rfl ?_
  refine X_getPe fl_X12_9 (g_K123 G) rfl (g_P123_1 G) dX12_draws_7 ?_
  refine X_bipush (v := (11 : Int32)) dX12_draws_10 (by decide) ?_
  refine X_ialdJ (j := 11) (g_K124 G) rfl (by decide) dX12_draws_12 ?_
  refine X_i2l dX12_draws_13 ?_
  refine X_ldc2 lc_X12_551 dX12_draws_14 ?_
  refine X_lmul dX12_draws_17 ?_
  refine X_ldc2 lc_X12_553 dX12_draws_18 ?_
  refine X_ladd dX12_draws_21 ?_
  refine X_ldc2 lc_X12_555 dX12_draws_22 ?_
  refine X_lrem dX12_draws_25 (by decide) ?_
  refine X_l2i dX12_draws_26 ?_
  refine X_iastJ (j := 11) (g_K124 G) rfl (by decide) dX12_draws_27 ?_
  refine X_aload_n 0 dX12_draws_28 rfl rfl rfl ?_
  refine X_getPe fl_X12_9 (g_K123 G) rfl (g_P123_1 G) dX12_draws_29 ?_
  refine X_bipush (v := (11 : Int32)) dX12_draws_32 (by decide) ?_
  refine X_ialdJ (j := 11) (g_K124 G) rfl (by decide) dX12_draws_34 ?_
  refine X_ldc_w lc_X12_557 dX12_draws_35 ?_
  refine X_idiv dX12_draws_38 (by decide) ?_
  refine X_iload_n 1 dX12_draws_39 rfl rfl ?_
  obtain ⟨g1, hm⟩ := og hm
  refine X_irem dX12_draws_40 g1 ?_
  replace hm := Option.some.inj hm
  subst hm
  exact X_iret dX12_draws_41 rfl
def mX12_drawsCoat  (I : Nat → Nat → Int32) : Option (Int32 × (Nat → Nat → Int32)) := (if (I 124 5) = 0 then (some ((0 : Int32), I)) else (if (I 124 4) = 0 then (some ((0 : Int32), I)) else (Option.bind (mX12_draws I (I 124 5)) (fun q3 => (Option.bind (mX12_draws q3.2 (q3.2 124 4)) (fun q5 => (Option.bind (mX12_canPaint q5.2 q5.1 q3.1) (fun q7 => (if q7 = 0 then (some ((0 : Int32), q5.2)) else (Option.bind (mX12_paints q5.2 q5.1 q3.1) (fun q10 => (if inb q3.1 4 = true then (if inb q3.1 4 = true then (some ((1 : Int32), (xu q10 128 (ix q3.1) ((q10 128 (ix q3.1)) - (q10 124 2))))) else none) else none))))))))))))
set_option maxHeartbeats 400000 in
set_option maxRecDepth 100000 in
theorem kX12_drawsCoat {E : xE} {B : Nat} {n : Nat} {K : Nat → Nat × Nat} {P : Nat → Nat → Nat} {I : Nat → Nat → Int32} {L : Nat → Nat → Int64}   {q : Int32 × (Nat → Nat → Int32)} (d : Nat) (hd : 3 ≤ d) (G : GW K P)   (hm : mX12_drawsCoat I = some q) : MX E B d 0 0 yX12_drawsCoat cX12_drawsCoat 3 (some .int) [.ref 123] (n, K, P, I, L) (some (.int q.1), (n, K, P, q.2, L)) := by
  refine MX_of (lv := [(0, .ref 123)]) (by decide +kernel) (Nat.le_of_ble_eq_true rfl) rfl ?_
  obtain ⟨d, rfl⟩ : ∃ d0, d = d0 + 1 := ⟨d - 1, by omega⟩
  unfold mX12_drawsCoat at hm
  refine X_aload_n 0 dX12_drawsCoat_0 rfl rfl rfl ?_
  refine X_getPe fl_X12_9 (g_K123 G) rfl (g_P123_1 G) dX12_drawsCoat_1 ?_
  refine X_iconst (v := (5 : Int32)) dX12_drawsCoat_4 (by decide) ?_
  refine X_ialdJ (j := 5) (g_K124 G) rfl (by decide) dX12_drawsCoat_5 ?_
  refine X_if_eq (tgt := 18) dX12_drawsCoat_6 (by decide) (fun c1 => ?_) (fun c1 => ?_)
  · replace hm := ip c1 hm
    refine X_iconst (v := (0 : Int32)) dX12_drawsCoat_18 (by decide) ?_
    replace hm := Option.some.inj hm
    subst hm
    exact X_iret dX12_drawsCoat_19 rfl
  · replace hm := iq c1 hm
    refine X_aload_n 0 dX12_drawsCoat_9 rfl rfl rfl ?_
    refine X_getPe fl_X12_9 (g_K123 G) rfl (g_P123_1 G) dX12_drawsCoat_10 ?_
    refine X_iconst (v := (4 : Int32)) dX12_drawsCoat_13 (by decide) ?_
    refine X_ialdJ (j := 4) (g_K124 G) rfl (by decide) dX12_drawsCoat_14 ?_
    refine X_if_ne (tgt := 20) dX12_drawsCoat_15 (by decide) (fun c2 => ?_) (fun c2 => ?_)
    · replace hm := iq c2 hm
      refine X_aload_n 0 dX12_drawsCoat_20 rfl rfl rfl ?_
      refine X_aload_n 0 dX12_drawsCoat_21 rfl rfl rfl ?_
      refine X_getPe fl_X12_9 (g_K123 G) rfl (g_P123_1 G) dX12_drawsCoat_22 ?_
      refine X_iconst (v := (5 : Int32)) dX12_drawsCoat_25 (by decide) ?_
      refine X_ialdJ (j := 5) (g_K124 G) rfl (by decide) dX12_drawsCoat_26 ?_
      obtain ⟨q3, e4, hm⟩ := ob hm
      refine X_cV1 (ci := 11) (kX12_draws d (by omega) G e4) ml_X12_558 mi_X12_draws rfl cf_11 (g_K123 G) rfl rfl (Nat.le_refl _) ⟨Nat.le_refl _, Nat.le_refl _⟩ (Nat.le_of_ble_eq_true rfl) dX12_drawsCoat_27 ?_
      refine X_istore_n (lv' := [(1, .int q3.1), (0, .ref 123)]) dX12_drawsCoat_30 rfl (by decide) rfl ?_
      refine X_aload_n 1 dX12_drawsCoat_31 rfl rfl rfl ?_
      refine X_aload_n 1 dX12_drawsCoat_32 rfl rfl rfl ?_
      refine X_getPe fl_X12_9 (g_K123 G) rfl (g_P123_1 G) dX12_drawsCoat_33 ?_
      refine X_iconst (v := (4 : Int32)) dX12_drawsCoat_36 (by decide) ?_
      refine X_ialdJ (j := 4) (g_K124 G) rfl (by decide) dX12_drawsCoat_37 ?_
      obtain ⟨q5, e6, hm⟩ := ob hm
      refine X_cV1 (ci := 11) (kX12_draws d (by omega) G e6) ml_X12_558 mi_X12_draws rfl cf_11 (g_K123 G) rfl rfl (Nat.le_refl _) ⟨Nat.le_refl _, Nat.le_refl _⟩ (Nat.le_of_ble_eq_true rfl) dX12_drawsCoat_38 ?_
      refine X_istore_n (lv' := [(2, .int q5.1), (1, .int q3.1), (0, .ref 123)]) dX12_drawsCoat_41 rfl (by decide) rfl ?_
      refine X_aload_n 2 dX12_drawsCoat_42 rfl rfl rfl ?_
      refine X_iload_n 0 dX12_drawsCoat_43 rfl rfl ?_
      refine X_iload_n 1 dX12_drawsCoat_44 rfl rfl ?_
      obtain ⟨q7, e8, hm⟩ := ob hm
      refine X_cV1 (ci := 11) (kX12_canPaint d (by omega) G e8) ml_X12_435 mi_X12_canPaint rfl cf_11 (g_K123 G) rfl rfl (Nat.le_refl _) ⟨Nat.le_refl _, Nat.le_refl _⟩ (Nat.le_of_ble_eq_true rfl) dX12_drawsCoat_45 ?_
      refine X_if_ne (tgt := 53) dX12_drawsCoat_48 (by decide) (fun c9 => ?_) (fun c9 => ?_)
      · replace hm := iq c9 hm
        refine X_aload_n 2 dX12_drawsCoat_53 rfl rfl rfl ?_
        refine X_iload_n 0 dX12_drawsCoat_54 rfl rfl ?_
        refine X_iload_n 1 dX12_drawsCoat_55 rfl rfl ?_
        obtain ⟨q10, e11, hm⟩ := ob hm
        refine X_cV0 (ci := 11) (kX12_paints d (by omega) G e11) ml_X12_448 mi_X12_paints rfl cf_11 (g_K123 G) rfl rfl (Nat.le_refl _) ⟨Nat.le_refl _, Nat.le_refl _⟩ (Nat.le_of_ble_eq_true rfl) dX12_drawsCoat_56 ?_
        refine X_aload_n 2 dX12_drawsCoat_59 rfl rfl rfl ?_
        refine X_getPe fl_X12_22 (g_K123 G) rfl (g_P123_5 G) dX12_drawsCoat_60 ?_
        refine X_iload_n 1 dX12_drawsCoat_63 rfl rfl ?_
        refine X_dup2 dX12_drawsCoat_64 rfl rfl ?_
        obtain ⟨g12, hm⟩ := og hm
        refine X_ialdJ (g_K128 G) g12 rfl dX12_drawsCoat_65 ?_
        refine X_aload_n 2 dX12_drawsCoat_66 rfl rfl rfl ?_
        refine X_getPe fl_X12_9 (g_K123 G) rfl (g_P123_1 G) dX12_drawsCoat_67 ?_
        refine X_iconst (v := (2 : Int32)) dX12_drawsCoat_70 (by decide) ?_
        refine X_ialdJ (j := 2) (g_K124 G) rfl (by decide) dX12_drawsCoat_71 ?_
        refine X_isub dX12_drawsCoat_72 ?_
        obtain ⟨g13, hm⟩ := og hm
        refine X_iastJ (g_K128 G) g13 rfl dX12_drawsCoat_73 ?_
        refine X_iconst (v := (1 : Int32)) dX12_drawsCoat_74 (by decide) ?_
        replace hm := Option.some.inj hm
        subst hm
        exact X_iret dX12_drawsCoat_75 rfl
      · replace hm := ip c9 hm
        refine X_iconst (v := (0 : Int32)) dX12_drawsCoat_51 (by decide) ?_
        replace hm := Option.some.inj hm
        subst hm
        exact X_iret dX12_drawsCoat_52 rfl
    · replace hm := ip c2 hm
      refine X_iconst (v := (0 : Int32)) dX12_drawsCoat_18 (by decide) ?_
      replace hm := Option.some.inj hm
      subst hm
      exact X_iret dX12_drawsCoat_19 rfl
def mX12_years_84  (e109 : (Nat → Nat → Int32) → Int32 → Int32 → Int32 → Int32 → Int32 → Int32 → Option (Int32 × (Nat → Nat → Int32))) : Nat → (Nat → Nat → Int32) → Int32 → Int32 → Int32 → Int32 → Int32 → Int32 → Int32 → Option (Int32 × (Nat → Nat → Int32))
  | 0, _, _, _, _, _, _, _, _ => none
  | f + 1, I, a1, a2, a3, a4, a6, a7, a8 => (if a2 ≤ a8 then (e109 I a1 a2 a3 a4 a6 a7) else (Option.bind (mX12_drawsCoat I) (fun q17 => (Option.bind (mX12_ends q17.2) (fun q19 => (mX12_years_84 e109 f q19 a1 a2 a3 a4 (a6 + q17.1) a7 (a8 + 1)))))))
set_option maxHeartbeats 400000 in
set_option maxRecDepth 100000 in
theorem kX12_years_84 {E : xE} {B : Nat} {n : Nat} {K : Nat → Nat × Nat} {P : Nat → Nat → Nat} {L : Nat → Nat → Int64}  {e109 : (Nat → Nat → Int32) → Int32 → Int32 → Int32 → Int32 → Int32 → Int32 → Option (Int32 × (Nat → Nat → Int32))} {q : Int32 × (Nat → Nat → Int32)} (d : Nat) (hd : 5 ≤ d) (G : GW K P)  (he109 : ∀ (I : Nat → Nat → Int32) (a1 : Int32) (a2 : Int32) (a3 : Int32) (a4 : Int32) (a6 : Int32) (a7 : Int32), e109 I a1 a2 a3 a4 a6 a7 = some q → X E B d 0 0 yX12_years cX12_years 9 (some .int) (some (.int q.1), (n, K, P, q.2, L)) 109 [(0, .ref 123), (1, .int a1), (2, .int a2), (3, .int a3), (4, .int a4), (6, .int a6), (7, .int a7)] [] 0 0 (n, K, P, I, L)) : ∀ (f : Nat) (I : Nat → Nat → Int32) (a1 : Int32) (a2 : Int32) (a3 : Int32) (a4 : Int32) (a6 : Int32) (a7 : Int32) (a8 : Int32), mX12_years_84 e109 f I a1 a2 a3 a4 a6 a7 a8 = some q → X E B d 0 0 yX12_years cX12_years 9 (some .int) (some (.int q.1), (n, K, P, q.2, L)) 84 [(0, .ref 123), (1, .int a1), (2, .int a2), (3, .int a3), (4, .int a4), (6, .int a6), (7, .int a7), (8, .int a8)] [] 0 0 (n, K, P, I, L) := by
  obtain ⟨d, rfl⟩ : ∃ d0, d = d0 + 1 := ⟨d - 1, by omega⟩
  intro f
  induction f with
  | zero => intro _ _ _ _ _ _ _ _ hm; exact nomatch (show (none : Option (Int32 × (Nat → Nat → Int32))) = some q from hm)
  | succ f ih =>
    intro I a1 a2 a3 a4 a6 a7 a8 hm
    rw [mX12_years_84] at hm
    refine X_iload 7 dX12_years_84 rfl ?_
    refine X_iload_n 2 dX12_years_86 rfl rfl ?_
    refine X_icmp_ge (tgt := 109) dX12_years_87 (by decide) (fun c16 => ?_) (fun c16 => ?_)
    · replace hm := ip c16 hm
      exact X_lv [0, 1, 2, 3, 4, 5, 6] rfl (he109 _ _ _ _ _ _ _ hm)
    · replace hm := iq c16 hm
      refine X_iload 5 dX12_years_90 rfl ?_
      refine X_aload_n 0 dX12_years_92 rfl rfl rfl ?_
      obtain ⟨q17, e18, hm⟩ := ob hm
      refine X_cV1 (ci := 11) (kX12_drawsCoat d (by omega) G e18) ml_X12_563 mi_X12_drawsCoat rfl cf_11 (g_K123 G) rfl rfl (Nat.le_refl _) ⟨Nat.le_refl _, Nat.le_refl _⟩ (Nat.le_of_ble_eq_true rfl) dX12_years_93 ?_
      refine X_iadd dX12_years_96 ?_
      refine X_istore (lv' := [(6, .int (a6 + q17.1)), (0, .ref 123), (1, .int a1), (2, .int a2), (3, .int a3), (4, .int a4), (7, .int a7), (8, .int a8)]) dX12_years_97 (by decide) rfl ?_
      refine X_aload_n 1 dX12_years_99 rfl rfl rfl ?_
      obtain ⟨q19, e20, hm⟩ := ob hm
      refine X_cV0 (ci := 11) (kX12_ends d (by omega) G e20) ml_X12_457 mi_X12_ends rfl cf_11 (g_K123 G) rfl rfl (Nat.le_refl _) ⟨Nat.le_refl _, Nat.le_refl _⟩ (Nat.le_of_ble_eq_true rfl) dX12_years_100 ?_
      refine X_iinc (lv' := [(8, .int (a8 + 1)), (6, .int (a6 + q17.1)), (0, .ref 123), (1, .int a1), (2, .int a2), (3, .int a3), (4, .int a4), (7, .int a7)]) 7 dX12_years_103 rfl rfl (by decide) rfl ?_
      refine X_goto (tgt := 84) dX12_years_106 (by decide) ?_
      exact X_lv [2, 3, 4, 5, 6, 1, 7, 0] rfl (ih _ _ _ _ _ _ _ _ hm)
def mX12_years_66  (e128 : (Nat → Nat → Int32) → Int32 → Int32 → Int32 → Option (Int32 × (Nat → Nat → Int32))) : Nat → (Nat → Nat → Int32) → Int32 → Int32 → Int32 → Int32 → Int32 → Int32 → Int32 → Option (Int32 × (Nat → Nat → Int32))
  | 0, _, _, _, _, _, _, _, _ => none
  | f + 1, I, a1, a2, a3, a4, a5, a6, a7 => (if a1 ≤ a7 then (e128 I a3 a4 a6) else (mX12_years_84 (fun (I_21 : (Nat → Nat → Int32)) (a1_21 : Int32) (a2_21 : Int32) (a3_21 : Int32) (a4_21 : Int32) (a6_21 : Int32) (a7_21 : Int32) => (Option.bind (mX12_laysBack I_21) (fun q22 => (mX12_years_66 e128 f q22 a1_21 a2_21 a3_21 a4_21 (I_21 124 11) a6_21 (a7_21 + 1))))) xf (xu I 124 11 a5) a1 a2 a3 a4 a6 a7 (0 : Int32)))
set_option maxHeartbeats 400000 in
set_option maxRecDepth 100000 in
theorem kX12_years_66 {E : xE} {B : Nat} {n : Nat} {K : Nat → Nat × Nat} {P : Nat → Nat → Nat} {L : Nat → Nat → Int64}  {e128 : (Nat → Nat → Int32) → Int32 → Int32 → Int32 → Option (Int32 × (Nat → Nat → Int32))} {q : Int32 × (Nat → Nat → Int32)} (d : Nat) (hd : 5 ≤ d) (G : GW K P)  (he128 : ∀ (I : Nat → Nat → Int32) (a3 : Int32) (a4 : Int32) (a6 : Int32), e128 I a3 a4 a6 = some q → X E B d 0 0 yX12_years cX12_years 9 (some .int) (some (.int q.1), (n, K, P, q.2, L)) 128 [(0, .ref 123), (3, .int a3), (4, .int a4), (6, .int a6)] [] 0 0 (n, K, P, I, L)) : ∀ (f : Nat) (I : Nat → Nat → Int32) (a1 : Int32) (a2 : Int32) (a3 : Int32) (a4 : Int32) (a5 : Int32) (a6 : Int32) (a7 : Int32), mX12_years_66 e128 f I a1 a2 a3 a4 a5 a6 a7 = some q → X E B d 0 0 yX12_years cX12_years 9 (some .int) (some (.int q.1), (n, K, P, q.2, L)) 66 [(0, .ref 123), (1, .int a1), (2, .int a2), (3, .int a3), (4, .int a4), (5, .int a5), (6, .int a6), (7, .int a7)] [] 0 0 (n, K, P, I, L) := by
  obtain ⟨d, rfl⟩ : ∃ d0, d = d0 + 1 := ⟨d - 1, by omega⟩
  intro f
  induction f with
  | zero => intro _ _ _ _ _ _ _ _ hm; exact nomatch (show (none : Option (Int32 × (Nat → Nat → Int32))) = some q from hm)
  | succ f ih =>
    intro I a1 a2 a3 a4 a5 a6 a7 hm
    rw [mX12_years_66] at hm
    refine X_iload 7 dX12_years_66 rfl ?_
    refine X_iload_n 1 dX12_years_68 rfl rfl ?_
    refine X_icmp_ge (tgt := 128) dX12_years_69 (by decide) (fun c15 => ?_) (fun c15 => ?_)
    · replace hm := ip c15 hm
      exact X_lv [0, 3, 4, 6] rfl (he128 _ _ _ _ hm)
    · replace hm := iq c15 hm
      refine X_aload_n 0 dX12_years_72 rfl rfl rfl ?_
      refine X_getPe fl_X12_9 (g_K123 G) rfl (g_P123_1 G) dX12_years_73 ?_
      refine X_bipush (v := (11 : Int32)) dX12_years_76 (by decide) ?_
      refine X_iload 5 dX12_years_78 rfl ?_
      refine X_iastJ (j := 11) (g_K124 G) rfl (by decide) dX12_years_80 ?_
      refine X_iconst (v := (0 : Int32)) dX12_years_81 (by decide) ?_
      refine X_istore (lv' := [(8, .int (0 : Int32)), (0, .ref 123), (1, .int a1), (2, .int a2), (3, .int a3), (4, .int a4), (5, .int a5), (6, .int a6), (7, .int a7)]) dX12_years_82 (by decide) rfl ?_
      refine X_lv [1, 2, 3, 4, 5, 7, 8, 0] rfl (kX12_years_84 _ hd G (fun I_21 a1_21 a2_21 a3_21 a4_21 a6_21 a7_21 hm => ?_) xf _ _ _ _ _ _ _ _  hm)
      refine X_aload_n 0 dX12_years_109 rfl rfl rfl ?_
      refine X_getPe fl_X12_9 (g_K123 G) rfl (g_P123_1 G) dX12_years_110 ?_
      refine X_bipush (v := (11 : Int32)) dX12_years_113 (by decide) ?_
      refine X_ialdJ (j := 11) (g_K124 G) rfl (by decide) dX12_years_115 ?_
      refine X_istore (lv' := [(5, .int (I_21 124 11)), (0, .ref 123), (1, .int a1_21), (2, .int a2_21), (3, .int a3_21), (4, .int a4_21), (6, .int a6_21), (7, .int a7_21)]) dX12_years_116 (by decide) rfl ?_
      refine X_aload_n 1 dX12_years_118 rfl rfl rfl ?_
      obtain ⟨q22, e23, hm⟩ := ob hm
      refine X_cV0 (ci := 11) (kX12_laysBack d (by omega) G e23) ml_X12_497 mi_X12_laysBack rfl cf_11 (g_K123 G) rfl rfl (Nat.le_refl _) ⟨Nat.le_refl _, Nat.le_refl _⟩ (Nat.le_of_ble_eq_true rfl) dX12_years_119 ?_
      refine X_iinc (lv' := [(7, .int (a7_21 + 1)), (5, .int (I_21 124 11)), (0, .ref 123), (1, .int a1_21), (2, .int a2_21), (3, .int a3_21), (4, .int a4_21), (6, .int a6_21)]) 7 dX12_years_122 rfl rfl (by decide) rfl ?_
      refine X_goto (tgt := 66) dX12_years_125 (by decide) ?_
      exact X_lv [2, 3, 4, 5, 6, 1, 7, 0] rfl (ih _ _ _ _ _ _ _ _ hm)
def mX12_years_143   : Nat → (Nat → Nat → Int32) → Int32 → Int32 → Int32 → Int32 → Option (Int32 × (Nat → Nat → Int32))
  | 0, _, _, _, _, _ => none
  | f + 1, I, a3, a6, a7, a8 => (if (4 : Int32) ≤ a8 then (if a3 = 0 then (some (a6, I)) else (some (a7, I))) else (if inb a8 4 = true then (mX12_years_143 f I a3 a6 (a7 + (I 161 (ix a8))) (a8 + 1)) else none))
set_option maxHeartbeats 400000 in
set_option maxRecDepth 100000 in
theorem kX12_years_143 {E : xE} {B : Nat} {n : Nat} {K : Nat → Nat × Nat} {P : Nat → Nat → Nat} {L : Nat → Nat → Int64}   {q : Int32 × (Nat → Nat → Int32)} (d : Nat) (hd : 5 ≤ d) (G : GW K P)   : ∀ (f : Nat) (I : Nat → Nat → Int32) (a3 : Int32) (a6 : Int32) (a7 : Int32) (a8 : Int32), mX12_years_143 f I a3 a6 a7 a8 = some q → X E B d 0 0 yX12_years cX12_years 9 (some .int) (some (.int q.1), (n, K, P, q.2, L)) 143 [(0, .ref 123), (3, .int a3), (6, .int a6), (7, .int a7), (8, .int a8)] [] 0 0 (n, K, P, I, L) := by
  obtain ⟨d, rfl⟩ : ∃ d0, d = d0 + 1 := ⟨d - 1, by omega⟩
  intro f
  induction f with
  | zero => intro _ _ _ _ _ hm; exact nomatch (show (none : Option (Int32 × (Nat → Nat → Int32))) = some q from hm)
  | succ f ih =>
    intro I a3 a6 a7 a8 hm
    rw [mX12_years_143] at hm
    refine X_iload 4 dX12_years_143 rfl ?_
    refine X_iconst (v := (4 : Int32)) dX12_years_145 (by decide) ?_
    refine X_icmp_ge (tgt := 167) dX12_years_146 (by decide) (fun c25 => ?_) (fun c25 => ?_)
    · replace hm := ip c25 hm
      refine X_iload_n 1 dX12_years_167 rfl rfl ?_
      refine X_if_ne (tgt := 176) dX12_years_168 (by decide) (fun c26 => ?_) (fun c26 => ?_)
      · replace hm := iq c26 hm
        refine X_iload 3 dX12_years_176 rfl ?_
        replace hm := Option.some.inj hm
        subst hm
        exact X_iret dX12_years_178 rfl
      · replace hm := ip c26 hm
        refine X_iload 2 dX12_years_171 rfl ?_
        refine X_goto (tgt := 178) dX12_years_173 (by decide) ?_
        replace hm := Option.some.inj hm
        subst hm
        exact X_iret dX12_years_178 rfl
    · replace hm := iq c25 hm
      refine X_iload 3 dX12_years_149 rfl ?_
      refine X_aload_n 0 dX12_years_151 rfl rfl rfl ?_
      refine X_getPe fl_X12_127 (g_K123 G) rfl (g_P123_48 G) dX12_years_152 ?_
      refine X_iload 4 dX12_years_155 rfl ?_
      obtain ⟨g27, hm⟩ := og hm
      refine X_ialdJ (g_K161 G) g27 rfl dX12_years_157 ?_
      refine X_iadd dX12_years_158 ?_
      refine X_istore (lv' := [(7, .int (a7 + (I 161 (ix a8)))), (0, .ref 123), (3, .int a3), (6, .int a6), (8, .int a8)]) dX12_years_159 (by decide) rfl ?_
      refine X_iinc (lv' := [(8, .int (a8 + 1)), (7, .int (a7 + (I 161 (ix a8)))), (0, .ref 123), (3, .int a3), (6, .int a6)]) 4 dX12_years_161 rfl rfl (by decide) rfl ?_
      refine X_goto (tgt := 143) dX12_years_164 (by decide) ?_
      exact X_lv [2, 3, 4, 1, 0] rfl (ih _ _ _ _ _ hm)
def mX12_years  (I : Nat → Nat → Int32) (a1 : Int32) (a2 : Int32) (a3 : Int32) : Option (Int32 × (Nat → Nat → Int32)) := (Option.bind (mX12_isStreet I) (fun q1 => (if q1 = 0 then (some ((-1 : Int32), I)) else (Option.bind (mX12_in a1.toInt64 (1 : Int64) (10 : Int64)) (fun q4 => (if q4 = 0 then (some ((-1 : Int32), I)) else (Option.bind (mX12_in a2.toInt64 (1 : Int64) (100 : Int64)) (fun q7 => (if q7 = 0 then (some ((-1 : Int32), I)) else (Option.bind (mX12_in a3.toInt64 (0 : Int64) (1 : Int64)) (fun q10 => (if q10 = 0 then (some ((-1 : Int32), I)) else (Option.bind (mX12_keepsAll I) (fun q13 => (mX12_years_66 (fun (I_24 : (Nat → Nat → Int32)) (a3_24 : Int32) (a4_24 : Int32) (a6_24 : Int32) => (mX12_years_143 xf (xu I_24 124 11 a4_24) a3_24 a6_24 (0 : Int32) (0 : Int32))) xf q13 a1 a2 a3 (I 124 11) (I 124 11) (0 : Int32) (0 : Int32))))))))))))))))
set_option maxHeartbeats 400000 in
set_option maxRecDepth 100000 in
theorem kX12_years {E : xE} {B : Nat} {n : Nat} {K : Nat → Nat × Nat} {P : Nat → Nat → Nat} {I : Nat → Nat → Int32} {L : Nat → Nat → Int64}  {a1 : Int32} {a2 : Int32} {a3 : Int32} {q : Int32 × (Nat → Nat → Int32)} (d : Nat) (hd : 5 ≤ d) (G : GW K P)   (hm : mX12_years I a1 a2 a3 = some q) : MX E B d 0 0 yX12_years cX12_years 9 (some .int) [.ref 123, .int a1, .int a2, .int a3] (n, K, P, I, L) (some (.int q.1), (n, K, P, q.2, L)) := by
  refine MX_of (lv := [(0, .ref 123), (1, .int a1), (2, .int a2), (3, .int a3)]) (by decide +kernel) (Nat.le_of_ble_eq_true rfl) rfl ?_
  obtain ⟨d, rfl⟩ : ∃ d0, d = d0 + 1 := ⟨d - 1, by omega⟩
  unfold mX12_years at hm
  refine X_aload_n 0 dX12_years_0 rfl rfl rfl ?_
  obtain ⟨q1, e2, hm⟩ := ob hm
  refine X_cV1 (ci := 11) (kX12_isStreet d (by omega) G e2) ml_X12_429 mi_X12_isStreet rfl cf_11 (g_K123 G) rfl rfl (Nat.le_refl _) ⟨Nat.le_refl _, Nat.le_refl _⟩ (Nat.le_of_ble_eq_true rfl) dX12_years_1 ?_
  refine X_if_eq (tgt := 41) dX12_years_4 (by decide) (fun c3 => ?_) (fun c3 => ?_)
  · replace hm := ip c3 hm
    refine X_iconst (v := (-1 : Int32)) dX12_years_41 (by decide) ?_
    replace hm := Option.some.inj hm
    subst hm
    exact X_iret dX12_years_42 rfl
  · replace hm := iq c3 hm
    refine X_iload_n 1 dX12_years_7 rfl rfl ?_
    refine X_i2l dX12_years_8 ?_
    refine X_lconst (v := (1 : Int64)) dX12_years_9 (by decide) ?_
    refine X_ldc2 lc_X12_561 dX12_years_10 ?_
    obtain ⟨q4, e5, hm⟩ := ob hm
    refine X_cS1 (kX12_in d (by omega) G e5) ml_X12_164 ms_X12_in rfl rfl (Nat.le_refl _) ⟨Nat.le_refl _, Nat.le_refl _⟩ (Nat.le_of_ble_eq_true rfl) dX12_years_13 ?_
    refine X_if_eq (tgt := 41) dX12_years_16 (by decide) (fun c6 => ?_) (fun c6 => ?_)
    · replace hm := ip c6 hm
      refine X_iconst (v := (-1 : Int32)) dX12_years_41 (by decide) ?_
      replace hm := Option.some.inj hm
      subst hm
      exact X_iret dX12_years_42 rfl
    · replace hm := iq c6 hm
      refine X_iload_n 2 dX12_years_19 rfl rfl ?_
      refine X_i2l dX12_years_20 ?_
      refine X_lconst (v := (1 : Int64)) dX12_years_21 (by decide) ?_
      refine X_ldc2 lc_X12_489 dX12_years_22 ?_
      obtain ⟨q7, e8, hm⟩ := ob hm
      refine X_cS1 (kX12_in d (by omega) G e8) ml_X12_164 ms_X12_in rfl rfl (Nat.le_refl _) ⟨Nat.le_refl _, Nat.le_refl _⟩ (Nat.le_of_ble_eq_true rfl) dX12_years_25 ?_
      refine X_if_eq (tgt := 41) dX12_years_28 (by decide) (fun c9 => ?_) (fun c9 => ?_)
      · replace hm := ip c9 hm
        refine X_iconst (v := (-1 : Int32)) dX12_years_41 (by decide) ?_
        replace hm := Option.some.inj hm
        subst hm
        exact X_iret dX12_years_42 rfl
      · replace hm := iq c9 hm
        refine X_iload_n 3 dX12_years_31 rfl rfl ?_
        refine X_i2l dX12_years_32 ?_
        refine X_lconst (v := (0 : Int64)) dX12_years_33 (by decide) ?_
        refine X_lconst (v := (1 : Int64)) dX12_years_34 (by decide) ?_
        obtain ⟨q10, e11, hm⟩ := ob hm
        refine X_cS1 (kX12_in d (by omega) G e11) ml_X12_164 ms_X12_in rfl rfl (Nat.le_refl _) ⟨Nat.le_refl _, Nat.le_refl _⟩ (Nat.le_of_ble_eq_true rfl) dX12_years_35 ?_
        refine X_if_ne (tgt := 43) dX12_years_38 (by decide) (fun c12 => ?_) (fun c12 => ?_)
        · replace hm := iq c12 hm
          refine X_aload_n 0 dX12_years_43 rfl rfl rfl ?_
          refine X_getPe fl_X12_9 (g_K123 G) rfl (g_P123_1 G) dX12_years_44 ?_
          refine X_bipush (v := (11 : Int32)) dX12_years_47 (by decide) ?_
          refine X_ialdJ (j := 11) (g_K124 G) rfl (by decide) dX12_years_49 ?_
          refine X_istore (lv' := [(4, .int (I 124 11)), (0, .ref 123), (1, .int a1), (2, .int a2), (3, .int a3)]) dX12_years_50 (by decide) rfl ?_
          refine X_iload 0 dX12_years_52 rfl ?_
          refine X_istore (lv' := [(5, .int (I 124 11)), (4, .int (I 124 11)), (0, .ref 123), (1, .int a1), (2, .int a2), (3, .int a3)]) dX12_years_54 (by decide) rfl ?_
          refine X_iconst (v := (0 : Int32)) dX12_years_56 (by decide) ?_
          refine X_istore (lv' := [(6, .int (0 : Int32)), (5, .int (I 124 11)), (4, .int (I 124 11)), (0, .ref 123), (1, .int a1), (2, .int a2), (3, .int a3)]) dX12_years_57 (by decide) rfl ?_
          refine X_aload_n 3 dX12_years_59 rfl rfl rfl ?_
          obtain ⟨q13, e14, hm⟩ := ob hm
          refine X_cV0 (ci := 11) (kX12_keepsAll d (by omega) G e14) ml_X12_491 mi_X12_keepsAll rfl cf_11 (g_K123 G) rfl rfl (Nat.le_refl _) ⟨Nat.le_refl _, Nat.le_refl _⟩ (Nat.le_of_ble_eq_true rfl) dX12_years_60 ?_
          refine X_iconst (v := (0 : Int32)) dX12_years_63 (by decide) ?_
          refine X_istore (lv' := [(7, .int (0 : Int32)), (6, .int (0 : Int32)), (5, .int (I 124 11)), (4, .int (I 124 11)), (0, .ref 123), (1, .int a1), (2, .int a2), (3, .int a3)]) dX12_years_64 (by decide) rfl ?_
          refine X_lv [4, 5, 6, 7, 3, 2, 1, 0] rfl (kX12_years_66 _ hd G (fun I_24 a3_24 a4_24 a6_24 hm => ?_) xf _ _ _ _ _ _ _ _  hm)
          refine X_aload_n 0 dX12_years_128 rfl rfl rfl ?_
          refine X_getPe fl_X12_9 (g_K123 G) rfl (g_P123_1 G) dX12_years_129 ?_
          refine X_bipush (v := (11 : Int32)) dX12_years_132 (by decide) ?_
          refine X_iload 2 dX12_years_134 rfl ?_
          refine X_iastJ (j := 11) (g_K124 G) rfl (by decide) dX12_years_136 ?_
          refine X_iconst (v := (0 : Int32)) dX12_years_137 (by decide) ?_
          refine X_istore (lv' := [(7, .int (0 : Int32)), (0, .ref 123), (3, .int a3_24), (4, .int a4_24), (6, .int a6_24)]) dX12_years_138 (by decide) rfl ?_
          refine X_iconst (v := (0 : Int32)) dX12_years_140 (by decide) ?_
          refine X_istore (lv' := [(8, .int (0 : Int32)), (7, .int (0 : Int32)), (0, .ref 123), (3, .int a3_24), (4, .int a4_24), (6, .int a6_24)]) dX12_years_141 (by decide) rfl ?_
          refine X_lv [2, 3, 5, 1, 0] rfl (kX12_years_143 _ hd G xf _ _ _ _ _  hm)
        · replace hm := ip c12 hm
          refine X_iconst (v := (-1 : Int32)) dX12_years_41 (by decide) ?_
          replace hm := Option.some.inj hm
          subst hm
          exact X_iret dX12_years_42 rfl
def mX12_wetCells_4 (I : Nat → Nat → Int32)  : Nat → Int32 → Int32 → Option (Int32)
  | 0, _, _ => none
  | f + 1, a1, a2 => (if (I 124 4) ≤ a2 then (some a1) else (Option.bind (mX12_isTopWet I a2) (fun q2 => (if q2 = 0 then (mX12_wetCells_4 I f (a1 ||| (0 : Int32)) (a2 + 1)) else (mX12_wetCells_4 I f (a1 ||| (xshl (1 : Int32) a2)) (a2 + 1))))))
set_option maxHeartbeats 400000 in
set_option maxRecDepth 100000 in
theorem kX12_wetCells_4 {E : xE} {B : Nat} {n : Nat} {K : Nat → Nat × Nat} {P : Nat → Nat → Nat} {I : Nat → Nat → Int32} {L : Nat → Nat → Int64}   {q : Int32} (d : Nat) (hd : 2 ≤ d) (G : GW K P)   : ∀ (f : Nat) (a1 : Int32) (a2 : Int32), mX12_wetCells_4 I f a1 a2 = some q → X E B d 0 0 yX12_wetCells cX12_wetCells 3 (some .int) (some (.int q), (n, K, P, I, L)) 4 [(0, .ref 123), (1, .int a1), (2, .int a2)] [] 0 0 (n, K, P, I, L) := by
  obtain ⟨d, rfl⟩ : ∃ d0, d = d0 + 1 := ⟨d - 1, by omega⟩
  intro f
  induction f with
  | zero => intro _ _ hm; exact nomatch (show (none : Option (Int32)) = some q from hm)
  | succ f ih =>
    intro a1 a2 hm
    rw [mX12_wetCells_4] at hm
    refine X_iload_n 2 dX12_wetCells_4 rfl rfl ?_
    refine X_aload_n 0 dX12_wetCells_5 rfl rfl rfl ?_
    refine X_getPe fl_X12_9 (g_K123 G) rfl (g_P123_1 G) dX12_wetCells_6 ?_
    refine X_iconst (v := (4 : Int32)) dX12_wetCells_9 (by decide) ?_
    refine X_ialdJ (j := 4) (g_K124 G) rfl (by decide) dX12_wetCells_10 ?_
    refine X_icmp_ge (tgt := 38) dX12_wetCells_11 (by decide) (fun c1 => ?_) (fun c1 => ?_)
    · replace hm := ip c1 hm
      refine X_iload_n 1 dX12_wetCells_38 rfl rfl ?_
      replace hm := Option.some.inj hm
      subst hm
      exact X_iret dX12_wetCells_39 rfl
    · replace hm := iq c1 hm
      refine X_iload_n 1 dX12_wetCells_14 rfl rfl ?_
      refine X_aload_n 0 dX12_wetCells_15 rfl rfl rfl ?_
      refine X_iload_n 2 dX12_wetCells_16 rfl rfl ?_
      obtain ⟨q2, e3, hm⟩ := ob hm
      refine X_cV1 (ci := 11) (kX12_isTopWet d (by omega) G e3) ml_X12_414 mi_X12_isTopWet rfl cf_11 (g_K123 G) rfl rfl (Nat.le_refl _) ⟨Nat.le_refl _, Nat.le_refl _⟩ (Nat.le_of_ble_eq_true rfl) dX12_wetCells_17 ?_
      refine X_if_eq (tgt := 29) dX12_wetCells_20 (by decide) (fun c4 => ?_) (fun c4 => ?_)
      · replace hm := ip c4 hm
        refine X_iconst (v := (0 : Int32)) dX12_wetCells_29 (by decide) ?_
        refine X_ior dX12_wetCells_30 ?_
        refine X_istore_n (lv' := [(1, .int (a1 ||| (0 : Int32))), (0, .ref 123), (2, .int a2)]) dX12_wetCells_31 rfl (by decide) rfl ?_
        refine X_iinc (lv' := [(2, .int (a2 + 1)), (1, .int (a1 ||| (0 : Int32))), (0, .ref 123)]) 2 dX12_wetCells_32 rfl rfl (by decide) rfl ?_
        refine X_goto (tgt := 4) dX12_wetCells_35 (by decide) ?_
        exact X_lv [2, 1, 0] rfl (ih _ _ hm)
      · replace hm := iq c4 hm
        refine X_iconst (v := (1 : Int32)) dX12_wetCells_23 (by decide) ?_
        refine X_iload_n 2 dX12_wetCells_24 rfl rfl ?_
        refine X_ishl dX12_wetCells_25 ?_
        refine X_goto (tgt := 30) dX12_wetCells_26 (by decide) ?_
        refine X_ior dX12_wetCells_30 ?_
        refine X_istore_n (lv' := [(1, .int (a1 ||| (xshl (1 : Int32) a2))), (0, .ref 123), (2, .int a2)]) dX12_wetCells_31 rfl (by decide) rfl ?_
        refine X_iinc (lv' := [(2, .int (a2 + 1)), (1, .int (a1 ||| (xshl (1 : Int32) a2))), (0, .ref 123)]) 2 dX12_wetCells_32 rfl rfl (by decide) rfl ?_
        refine X_goto (tgt := 4) dX12_wetCells_35 (by decide) ?_
        exact X_lv [2, 1, 0] rfl (ih _ _ hm)
def mX12_wetCells (I : Nat → Nat → Int32)  : Option (Int32) := (mX12_wetCells_4 I xf (0 : Int32) (0 : Int32))
set_option maxHeartbeats 400000 in
set_option maxRecDepth 100000 in
theorem kX12_wetCells {E : xE} {B : Nat} {n : Nat} {K : Nat → Nat × Nat} {P : Nat → Nat → Nat} {I : Nat → Nat → Int32} {L : Nat → Nat → Int64}   {q : Int32} (d : Nat) (hd : 2 ≤ d) (G : GW K P)   (hm : mX12_wetCells I = some q) : MX E B d 0 0 yX12_wetCells cX12_wetCells 3 (some .int) [.ref 123] (n, K, P, I, L) (some (.int q), (n, K, P, I, L)) := by
  refine MX_of (lv := [(0, .ref 123)]) (by decide +kernel) (Nat.le_of_ble_eq_true rfl) rfl ?_
  obtain ⟨d, rfl⟩ : ∃ d0, d = d0 + 1 := ⟨d - 1, by omega⟩
  unfold mX12_wetCells at hm
  refine X_iconst (v := (0 : Int32)) dX12_wetCells_0 (by decide) ?_
  refine X_istore_n (lv' := [(1, .int (0 : Int32)), (0, .ref 123)]) dX12_wetCells_1 rfl (by decide) rfl ?_
  refine X_iconst (v := (0 : Int32)) dX12_wetCells_2 (by decide) ?_
  refine X_istore_n (lv' := [(2, .int (0 : Int32)), (1, .int (0 : Int32)), (0, .ref 123)]) dX12_wetCells_3 rfl (by decide) rfl ?_
  refine X_lv [2, 1, 0] rfl (kX12_wetCells_4 _ hd G xf _ _  hm)
def mX12_count (I : Nat → Nat → Int32) (a1 : Int32) : Option (Int32) := (if a1 = (0 : Int32) then (some (I 124 0)) else (if a1 = (1 : Int32) then (some (I 124 1)) else (if a1 = (2 : Int32) then (some (I 124 2)) else (if a1 = (3 : Int32) then (some (I 124 3)) else (if a1 = (4 : Int32) then (some (I 124 4)) else (if a1 = (5 : Int32) then (some (I 124 5)) else (if a1 = (6 : Int32) then (some (I 124 6)) else (if a1 = (7 : Int32) then (some (I 123 31)) else (if a1 = (8 : Int32) then (some (I 124 12)) else (if a1 = (9 : Int32) then (some (I 124 9)) else (if a1 = (10 : Int32) then (Option.bind (mX12_wetCells I) (fun q12 => (some q12))) else (if a1 = (11 : Int32) then (some (I 124 8)) else (if a1 = (12 : Int32) then (some (I 124 10)) else (if a1 = (13 : Int32) then (some (I 123 51)) else (if a1 = (14 : Int32) then (some (I 124 11)) else (if a1 = (15 : Int32) then (some (I 123 27)) else (some (-1 : Int32))))))))))))))))))
set_option maxHeartbeats 400000 in
set_option maxRecDepth 100000 in
theorem kX12_count {E : xE} {B : Nat} {n : Nat} {K : Nat → Nat × Nat} {P : Nat → Nat → Nat} {I : Nat → Nat → Int32} {L : Nat → Nat → Int64}  {a1 : Int32} {q : Int32} (d : Nat) (hd : 3 ≤ d) (G : GW K P)   (hm : mX12_count I a1 = some q) : MX E B d 0 0 yX12_count cX12_count 2 (some .int) [.ref 123, .int a1] (n, K, P, I, L) (some (.int q), (n, K, P, I, L)) := by
  refine MX_of (lv := [(0, .ref 123), (1, .int a1)]) (by decide +kernel) (Nat.le_of_ble_eq_true rfl) rfl ?_
  obtain ⟨d, rfl⟩ : ∃ d0, d = d0 + 1 := ⟨d - 1, by omega⟩
  unfold mX12_count at hm
  refine X_iload_n 1 dX12_count_0 rfl rfl ?_
  rcases Decidable.em (a1 = (0 : Int32)) with c1 | c1
  · replace hm := ip c1 hm
    refine X_swK (off := 79) (tgt := 80) c1 dX12_count_1 (by decide) (by decide) (by decide) (by decide) ?_
    refine X_aload_n 0 dX12_count_80 rfl rfl rfl ?_
    refine X_getPe fl_X12_9 (g_K123 G) rfl (g_P123_1 G) dX12_count_81 ?_
    refine X_iconst (v := (0 : Int32)) dX12_count_84 (by decide) ?_
    refine X_ialdJ (j := 0) (g_K124 G) rfl (by decide) dX12_count_85 ?_
    replace hm := Option.some.inj hm
    subst hm
    exact X_iret dX12_count_86 rfl
  · replace hm := iq c1 hm
    rcases Decidable.em (a1 = (1 : Int32)) with c2 | c2
    · replace hm := ip c2 hm
      refine X_swK (off := 86) (tgt := 87) c2 dX12_count_1 (by decide) (by decide) (by decide) (by decide) ?_
      refine X_aload_n 0 dX12_count_87 rfl rfl rfl ?_
      refine X_getPe fl_X12_9 (g_K123 G) rfl (g_P123_1 G) dX12_count_88 ?_
      refine X_iconst (v := (1 : Int32)) dX12_count_91 (by decide) ?_
      refine X_ialdJ (j := 1) (g_K124 G) rfl (by decide) dX12_count_92 ?_
      replace hm := Option.some.inj hm
      subst hm
      exact X_iret dX12_count_93 rfl
    · replace hm := iq c2 hm
      rcases Decidable.em (a1 = (2 : Int32)) with c3 | c3
      · replace hm := ip c3 hm
        refine X_swK (off := 93) (tgt := 94) c3 dX12_count_1 (by decide) (by decide) (by decide) (by decide) ?_
        refine X_aload_n 0 dX12_count_94 rfl rfl rfl ?_
        refine X_getPe fl_X12_9 (g_K123 G) rfl (g_P123_1 G) dX12_count_95 ?_
        refine X_iconst (v := (2 : Int32)) dX12_count_98 (by decide) ?_
        refine X_ialdJ (j := 2) (g_K124 G) rfl (by decide) dX12_count_99 ?_
        replace hm := Option.some.inj hm
        subst hm
        exact X_iret dX12_count_100 rfl
      · replace hm := iq c3 hm
        rcases Decidable.em (a1 = (3 : Int32)) with c4 | c4
        · replace hm := ip c4 hm
          refine X_swK (off := 100) (tgt := 101) c4 dX12_count_1 (by decide) (by decide) (by decide) (by decide) ?_
          refine X_aload_n 0 dX12_count_101 rfl rfl rfl ?_
          refine X_getPe fl_X12_9 (g_K123 G) rfl (g_P123_1 G) dX12_count_102 ?_
          refine X_iconst (v := (3 : Int32)) dX12_count_105 (by decide) ?_
          refine X_ialdJ (j := 3) (g_K124 G) rfl (by decide) dX12_count_106 ?_
          replace hm := Option.some.inj hm
          subst hm
          exact X_iret dX12_count_107 rfl
        · replace hm := iq c4 hm
          rcases Decidable.em (a1 = (4 : Int32)) with c5 | c5
          · replace hm := ip c5 hm
            refine X_swK (off := 107) (tgt := 108) c5 dX12_count_1 (by decide) (by decide) (by decide) (by decide) ?_
            refine X_aload_n 0 dX12_count_108 rfl rfl rfl ?_
            refine X_getPe fl_X12_9 (g_K123 G) rfl (g_P123_1 G) dX12_count_109 ?_
            refine X_iconst (v := (4 : Int32)) dX12_count_112 (by decide) ?_
            refine X_ialdJ (j := 4) (g_K124 G) rfl (by decide) dX12_count_113 ?_
            replace hm := Option.some.inj hm
            subst hm
            exact X_iret dX12_count_114 rfl
          · replace hm := iq c5 hm
            rcases Decidable.em (a1 = (5 : Int32)) with c6 | c6
            · replace hm := ip c6 hm
              refine X_swK (off := 114) (tgt := 115) c6 dX12_count_1 (by decide) (by decide) (by decide) (by decide) ?_
              refine X_aload_n 0 dX12_count_115 rfl rfl rfl ?_
              refine X_getPe fl_X12_9 (g_K123 G) rfl (g_P123_1 G) dX12_count_116 ?_
              refine X_iconst (v := (5 : Int32)) dX12_count_119 (by decide) ?_
              refine X_ialdJ (j := 5) (g_K124 G) rfl (by decide) dX12_count_120 ?_
              replace hm := Option.some.inj hm
              subst hm
              exact X_iret dX12_count_121 rfl
            · replace hm := iq c6 hm
              rcases Decidable.em (a1 = (6 : Int32)) with c7 | c7
              · replace hm := ip c7 hm
                refine X_swK (off := 121) (tgt := 122) c7 dX12_count_1 (by decide) (by decide) (by decide) (by decide) ?_
                refine X_aload_n 0 dX12_count_122 rfl rfl rfl ?_
                refine X_getPe fl_X12_9 (g_K123 G) rfl (g_P123_1 G) dX12_count_123 ?_
                refine X_bipush (v := (6 : Int32)) dX12_count_126 (by decide) ?_
                refine X_ialdJ (j := 6) (g_K124 G) rfl (by decide) dX12_count_128 ?_
                replace hm := Option.some.inj hm
                subst hm
                exact X_iret dX12_count_129 rfl
              · replace hm := iq c7 hm
                rcases Decidable.em (a1 = (7 : Int32)) with c8 | c8
                · replace hm := ip c8 hm
                  refine X_swK (off := 129) (tgt := 130) c8 dX12_count_1 (by decide) (by decide) (by decide) (by decide) ?_
                  refine X_aload_n 0 dX12_count_130 rfl rfl rfl ?_
                  refine X_getI fl_X12_362 (g_K123 G) rfl dX12_count_131 ?_
                  replace hm := Option.some.inj hm
                  subst hm
                  exact X_iret dX12_count_134 rfl
                · replace hm := iq c8 hm
                  rcases Decidable.em (a1 = (8 : Int32)) with c9 | c9
                  · replace hm := ip c9 hm
                    refine X_swK (off := 134) (tgt := 135) c9 dX12_count_1 (by decide) (by decide) (by decide) (by decide) ?_
                    refine X_aload_n 0 dX12_count_135 rfl rfl rfl ?_
                    refine X_getPe fl_X12_9 (g_K123 G) rfl (g_P123_1 G) dX12_count_136 ?_
                    refine X_bipush (v := (12 : Int32)) dX12_count_139 (by decide) ?_
                    refine X_ialdJ (j := 12) (g_K124 G) rfl (by decide) dX12_count_141 ?_
                    replace hm := Option.some.inj hm
                    subst hm
                    exact X_iret dX12_count_142 rfl
                  · replace hm := iq c9 hm
                    rcases Decidable.em (a1 = (9 : Int32)) with c10 | c10
                    · replace hm := ip c10 hm
                      refine X_swK (off := 142) (tgt := 143) c10 dX12_count_1 (by decide) (by decide) (by decide) (by decide) ?_
                      refine X_aload_n 0 dX12_count_143 rfl rfl rfl ?_
                      refine X_getPe fl_X12_9 (g_K123 G) rfl (g_P123_1 G) dX12_count_144 ?_
                      refine X_bipush (v := (9 : Int32)) dX12_count_147 (by decide) ?_
                      refine X_ialdJ (j := 9) (g_K124 G) rfl (by decide) dX12_count_149 ?_
                      replace hm := Option.some.inj hm
                      subst hm
                      exact X_iret dX12_count_150 rfl
                    · replace hm := iq c10 hm
                      rcases Decidable.em (a1 = (10 : Int32)) with c11 | c11
                      · replace hm := ip c11 hm
                        refine X_swK (off := 150) (tgt := 151) c11 dX12_count_1 (by decide) (by decide) (by decide) (by decide) ?_
                        refine X_aload_n 0 dX12_count_151 rfl rfl rfl ?_
                        obtain ⟨q12, e13, hm⟩ := ob hm
                        refine X_cV1 (ci := 11) (kX12_wetCells d (by omega) G e13) ml_X12_566 mi_X12_wetCells rfl cf_11 (g_K123 G) rfl rfl (Nat.le_refl _) ⟨Nat.le_refl _, Nat.le_refl _⟩ (Nat.le_of_ble_eq_true rfl) dX12_count_152 ?_
                        replace hm := Option.some.inj hm
                        subst hm
                        exact X_iret dX12_count_155 rfl
                      · replace hm := iq c11 hm
                        rcases Decidable.em (a1 = (11 : Int32)) with c14 | c14
                        · replace hm := ip c14 hm
                          refine X_swK (off := 155) (tgt := 156) c14 dX12_count_1 (by decide) (by decide) (by decide) (by decide) ?_
                          refine X_aload_n 0 dX12_count_156 rfl rfl rfl ?_
                          refine X_getPe fl_X12_9 (g_K123 G) rfl (g_P123_1 G) dX12_count_157 ?_
                          refine X_bipush (v := (8 : Int32)) dX12_count_160 (by decide) ?_
                          refine X_ialdJ (j := 8) (g_K124 G) rfl (by decide) dX12_count_162 ?_
                          replace hm := Option.some.inj hm
                          subst hm
                          exact X_iret dX12_count_163 rfl
                        · replace hm := iq c14 hm
                          rcases Decidable.em (a1 = (12 : Int32)) with c15 | c15
                          · replace hm := ip c15 hm
                            refine X_swK (off := 163) (tgt := 164) c15 dX12_count_1 (by decide) (by decide) (by decide) (by decide) ?_
                            refine X_aload_n 0 dX12_count_164 rfl rfl rfl ?_
                            refine X_getPe fl_X12_9 (g_K123 G) rfl (g_P123_1 G) dX12_count_165 ?_
                            refine X_bipush (v := (10 : Int32)) dX12_count_168 (by decide) ?_
                            refine X_ialdJ (j := 10) (g_K124 G) rfl (by decide) dX12_count_170 ?_
                            replace hm := Option.some.inj hm
                            subst hm
                            exact X_iret dX12_count_171 rfl
                          · replace hm := iq c15 hm
                            rcases Decidable.em (a1 = (13 : Int32)) with c16 | c16
                            · replace hm := ip c16 hm
                              refine X_swK (off := 171) (tgt := 172) c16 dX12_count_1 (by decide) (by decide) (by decide) (by decide) ?_
                              refine X_aload_n 0 dX12_count_172 rfl rfl rfl ?_
                              refine X_getI fl_X12_349 (g_K123 G) rfl dX12_count_173 ?_
                              replace hm := Option.some.inj hm
                              subst hm
                              exact X_iret dX12_count_176 rfl
                            · replace hm := iq c16 hm
                              rcases Decidable.em (a1 = (14 : Int32)) with c17 | c17
                              · replace hm := ip c17 hm
                                refine X_swK (off := 176) (tgt := 177) c17 dX12_count_1 (by decide) (by decide) (by decide) (by decide) ?_
                                refine X_aload_n 0 dX12_count_177 rfl rfl rfl ?_
                                refine X_getPe fl_X12_9 (g_K123 G) rfl (g_P123_1 G) dX12_count_178 ?_
                                refine X_bipush (v := (11 : Int32)) dX12_count_181 (by decide) ?_
                                refine X_ialdJ (j := 11) (g_K124 G) rfl (by decide) dX12_count_183 ?_
                                replace hm := Option.some.inj hm
                                subst hm
                                exact X_iret dX12_count_184 rfl
                              · replace hm := iq c17 hm
                                rcases Decidable.em (a1 = (15 : Int32)) with c18 | c18
                                · replace hm := ip c18 hm
                                  refine X_swK (off := 184) (tgt := 185) c18 dX12_count_1 (by decide) (by decide) (by decide) (by decide) ?_
                                  refine X_aload_n 0 dX12_count_185 rfl rfl rfl ?_
                                  refine X_getI fl_X12_168 (g_K123 G) rfl dX12_count_186 ?_
                                  replace hm := Option.some.inj hm
                                  subst hm
                                  exact X_iret dX12_count_189 rfl
                                · replace hm := iq c18 hm
                                  refine X_tableOut (tgt := 190) dX12_count_1 (sw_out 16 (by decide) (fun i hi => by
                                    have hi2 : i = 0 ∨ i = 1 ∨ i = 2 ∨ i = 3 ∨ i = 4 ∨ i = 5 ∨ i = 6 ∨ i = 7 ∨ i = 8 ∨ i = 9 ∨ i = 10 ∨ i = 11 ∨ i = 12 ∨ i = 13 ∨ i = 14 ∨ i = 15 := by omega
                                    rcases hi2 with rfl | rfl | rfl | rfl | rfl | rfl | rfl | rfl | rfl | rfl | rfl | rfl | rfl | rfl | rfl | rfl
                                    · exact c1
                                    · exact c2
                                    · exact c3
                                    · exact c4
                                    · exact c5
                                    · exact c6
                                    · exact c7
                                    · exact c8
                                    · exact c9
                                    · exact c10
                                    · exact c11
                                    · exact c14
                                    · exact c15
                                    · exact c16
                                    · exact c17
                                    · exact c18)) (by decide) ?_
                                  refine X_iconst (v := (-1 : Int32)) dX12_count_190 (by decide) ?_
                                  replace hm := Option.some.inj hm
                                  subst hm
                                  exact X_iret dX12_count_191 rfl
def mX12_image  (I : Nat → Nat → Int32) (a1 : Int32) : Option (Int32 × (Nat → Nat → Int32)) := (Option.bind (mX12_in a1.toInt64 (0 : Int64) (3 : Int64)) (fun q1 => (if q1 = 0 then (some ((-1 : Int32), I)) else (if inb a1 4 = true then (Option.bind (mX12_carriesAll (xu I 171 (ix a1) (1 : Int32)) a1 (0 : Int32)) (fun q5 => (some ((q5 124 9), q5)))) else none))))
set_option maxHeartbeats 400000 in
set_option maxRecDepth 100000 in
theorem kX12_image {E : xE} {B : Nat} {n : Nat} {K : Nat → Nat × Nat} {P : Nat → Nat → Nat} {I : Nat → Nat → Int32} {L : Nat → Nat → Int64}  {a1 : Int32} {q : Int32 × (Nat → Nat → Int32)} (d : Nat) (hd : 2 ≤ d) (G : GW K P)   (hm : mX12_image I a1 = some q) : MX E B d 0 0 yX12_image cX12_image 2 (some .int) [.ref 123, .int a1] (n, K, P, I, L) (some (.int q.1), (n, K, P, q.2, L)) := by
  refine MX_of (lv := [(0, .ref 123), (1, .int a1)]) (by decide +kernel) (Nat.le_of_ble_eq_true rfl) rfl ?_
  obtain ⟨d, rfl⟩ : ∃ d0, d = d0 + 1 := ⟨d - 1, by omega⟩
  unfold mX12_image at hm
  refine X_iload_n 1 dX12_image_0 rfl rfl ?_
  refine X_i2l dX12_image_1 ?_
  refine X_lconst (v := (0 : Int64)) dX12_image_2 (by decide) ?_
  refine X_ldc2 lc_X12_578 dX12_image_3 ?_
  obtain ⟨q1, e2, hm⟩ := ob hm
  refine X_cS1 (kX12_in d (by omega) G e2) ml_X12_164 ms_X12_in rfl rfl (Nat.le_refl _) ⟨Nat.le_refl _, Nat.le_refl _⟩ (Nat.le_of_ble_eq_true rfl) dX12_image_6 ?_
  refine X_if_ne (tgt := 14) dX12_image_9 (by decide) (fun c3 => ?_) (fun c3 => ?_)
  · replace hm := iq c3 hm
    refine X_aload_n 0 dX12_image_14 rfl rfl rfl ?_
    refine X_getPe fl_X12_157 (g_K123 G) rfl (g_P123_62 G) dX12_image_15 ?_
    refine X_iload_n 1 dX12_image_18 rfl rfl ?_
    refine X_iconst (v := (1 : Int32)) dX12_image_19 (by decide) ?_
    obtain ⟨g4, hm⟩ := og hm
    refine X_zastJ (g_K171 G) g4 (by decide) rfl dX12_image_20 ?_
    refine X_aload_n 0 dX12_image_21 rfl rfl rfl ?_
    refine X_iload_n 1 dX12_image_22 rfl rfl ?_
    refine X_iconst (v := (0 : Int32)) dX12_image_23 (by decide) ?_
    obtain ⟨q5, e6, hm⟩ := ob hm
    refine X_cV0 (ci := 11) (kX12_carriesAll d (by omega) G e6) ml_X12_481 mi_X12_carriesAll rfl cf_11 (g_K123 G) rfl rfl (Nat.le_refl _) ⟨Nat.le_refl _, Nat.le_refl _⟩ (Nat.le_of_ble_eq_true rfl) dX12_image_24 ?_
    refine X_aload_n 0 dX12_image_27 rfl rfl rfl ?_
    refine X_getPe fl_X12_9 (g_K123 G) rfl (g_P123_1 G) dX12_image_28 ?_
    refine X_bipush (v := (9 : Int32)) dX12_image_31 (by decide) ?_
    refine X_ialdJ (j := 9) (g_K124 G) rfl (by decide) dX12_image_33 ?_
    replace hm := Option.some.inj hm
    subst hm
    exact X_iret dX12_image_34 rfl
  · replace hm := ip c3 hm
    refine X_iconst (v := (-1 : Int32)) dX12_image_12 (by decide) ?_
    replace hm := Option.some.inj hm
    subst hm
    exact X_iret dX12_image_13 rfl
def mX12_back  (I : Nat → Nat → Int32) (a1 : Int32) : Option (Int32 × (Nat → Nat → Int32)) := (Option.bind (mX12_in a1.toInt64 (0 : Int64) (3 : Int64)) (fun q1 => (if q1 = 0 then (some ((-1 : Int32), I)) else (if inb a1 4 = true then (if (I 171 (ix a1)) = 0 then (some ((-1 : Int32), I)) else (Option.bind (mX12_carriesAll I a1 (1 : Int32)) (fun q6 => (some ((q6 124 9), q6))))) else none))))
set_option maxHeartbeats 400000 in
set_option maxRecDepth 100000 in
theorem kX12_back {E : xE} {B : Nat} {n : Nat} {K : Nat → Nat × Nat} {P : Nat → Nat → Nat} {I : Nat → Nat → Int32} {L : Nat → Nat → Int64}  {a1 : Int32} {q : Int32 × (Nat → Nat → Int32)} (d : Nat) (hd : 2 ≤ d) (G : GW K P)   (hm : mX12_back I a1 = some q) : MX E B d 0 0 yX12_back cX12_back 2 (some .int) [.ref 123, .int a1] (n, K, P, I, L) (some (.int q.1), (n, K, P, q.2, L)) := by
  refine MX_of (lv := [(0, .ref 123), (1, .int a1)]) (by decide +kernel) (Nat.le_of_ble_eq_true rfl) rfl ?_
  obtain ⟨d, rfl⟩ : ∃ d0, d = d0 + 1 := ⟨d - 1, by omega⟩
  unfold mX12_back at hm
  refine X_iload_n 1 dX12_back_0 rfl rfl ?_
  refine X_i2l dX12_back_1 ?_
  refine X_lconst (v := (0 : Int64)) dX12_back_2 (by decide) ?_
  refine X_ldc2 lc_X12_578 dX12_back_3 ?_
  obtain ⟨q1, e2, hm⟩ := ob hm
  refine X_cS1 (kX12_in d (by omega) G e2) ml_X12_164 ms_X12_in rfl rfl (Nat.le_refl _) ⟨Nat.le_refl _, Nat.le_refl _⟩ (Nat.le_of_ble_eq_true rfl) dX12_back_6 ?_
  refine X_if_eq (tgt := 21) dX12_back_9 (by decide) (fun c3 => ?_) (fun c3 => ?_)
  · replace hm := ip c3 hm
    refine X_iconst (v := (-1 : Int32)) dX12_back_21 (by decide) ?_
    replace hm := Option.some.inj hm
    subst hm
    exact X_iret dX12_back_22 rfl
  · replace hm := iq c3 hm
    refine X_aload_n 0 dX12_back_12 rfl rfl rfl ?_
    refine X_getPe fl_X12_157 (g_K123 G) rfl (g_P123_62 G) dX12_back_13 ?_
    refine X_iload_n 1 dX12_back_16 rfl rfl ?_
    obtain ⟨g4, hm⟩ := og hm
    refine X_zaldJ (g_K171 G) g4 rfl dX12_back_17 ?_
    refine X_if_ne (tgt := 23) dX12_back_18 (by decide) (fun c5 => ?_) (fun c5 => ?_)
    · replace hm := iq c5 hm
      refine X_aload_n 0 dX12_back_23 rfl rfl rfl ?_
      refine X_iload_n 1 dX12_back_24 rfl rfl ?_
      refine X_iconst (v := (1 : Int32)) dX12_back_25 (by decide) ?_
      obtain ⟨q6, e7, hm⟩ := ob hm
      refine X_cV0 (ci := 11) (kX12_carriesAll d (by omega) G e7) ml_X12_481 mi_X12_carriesAll rfl cf_11 (g_K123 G) rfl rfl (Nat.le_refl _) ⟨Nat.le_refl _, Nat.le_refl _⟩ (Nat.le_of_ble_eq_true rfl) dX12_back_26 ?_
      refine X_aload_n 0 dX12_back_29 rfl rfl rfl ?_
      refine X_getPe fl_X12_9 (g_K123 G) rfl (g_P123_1 G) dX12_back_30 ?_
      refine X_bipush (v := (9 : Int32)) dX12_back_33 (by decide) ?_
      refine X_ialdJ (j := 9) (g_K124 G) rfl (by decide) dX12_back_35 ?_
      replace hm := Option.some.inj hm
      subst hm
      exact X_iret dX12_back_36 rfl
    · replace hm := ip c5 hm
      refine X_iconst (v := (-1 : Int32)) dX12_back_21 (by decide) ?_
      replace hm := Option.some.inj hm
      subst hm
      exact X_iret dX12_back_22 rfl

def mX12_cellsIn (I : Nat → Nat → Int32) (a1 : Int32) : Option (Int32) := (if inb (a1 + (1 : Int32)) 5 = true then (if inb a1 5 = true then (some ((I 125 (ix (a1 + (1 : Int32)))) - (I 125 (ix a1)))) else none) else none)
set_option maxHeartbeats 400000 in
set_option maxRecDepth 100000 in
theorem kX12_cellsIn {E : xE} {B : Nat} {n : Nat} {K : Nat → Nat × Nat} {P : Nat → Nat → Nat} {I : Nat → Nat → Int32} {L : Nat → Nat → Int64}  {a1 : Int32} {q : Int32} (d : Nat) (hd : 0 ≤ d) (G : GW K P)   (hm : mX12_cellsIn I a1 = some q) : MX E B d 0 0 yX12_cellsIn cX12_cellsIn 2 (some .int) [.ref 123, .int a1] (n, K, P, I, L) (some (.int q), (n, K, P, I, L)) := by
  refine MX_of (lv := [(0, .ref 123), (1, .int a1)]) (by decide +kernel) (Nat.le_of_ble_eq_true rfl) rfl ?_
  unfold mX12_cellsIn at hm
  refine X_aload_n 0 dX12_cellsIn_0 rfl rfl rfl ?_
  refine X_getPe fl_X12_13 (g_K123 G) rfl (g_P123_2 G) dX12_cellsIn_1 ?_
  refine X_iload_n 1 dX12_cellsIn_4 rfl rfl ?_
  refine X_iconst (v := (1 : Int32)) dX12_cellsIn_5 (by decide) ?_
  refine X_iadd dX12_cellsIn_6 ?_
  obtain ⟨g1, hm⟩ := og hm
  refine X_ialdJ (g_K125 G) g1 rfl dX12_cellsIn_7 ?_
  refine X_aload_n 0 dX12_cellsIn_8 rfl rfl rfl ?_
  refine X_getPe fl_X12_13 (g_K123 G) rfl (g_P123_2 G) dX12_cellsIn_9 ?_
  refine X_iload_n 1 dX12_cellsIn_12 rfl rfl ?_
  obtain ⟨g2, hm⟩ := og hm
  refine X_ialdJ (g_K125 G) g2 rfl dX12_cellsIn_13 ?_
  refine X_isub dX12_cellsIn_14 ?_
  replace hm := Option.some.inj hm
  subst hm
  exact X_iret dX12_cellsIn_15 rfl
def mX12_thingOwner  (I : Nat → Nat → Int32) (a1 : Int32) : Option (Int32 × (Nat → Nat → Int32)) := (Option.bind (mX12_isBare I a1) (fun q1 => (if q1 = 0 then (Option.bind (mX12_countsCells I a1 (I 124 9) (0 : Int32)) (fun q4 => (Option.bind (mX12_cellsIn q4 a1) (fun q6 => (Option.bind (mX12_ownerByCells q4 q6 (q4 124 1)) (fun q8 => (some (q8, q4)))))))) else (some ((-1 : Int32), I)))))
set_option maxHeartbeats 400000 in
set_option maxRecDepth 100000 in
theorem kX12_thingOwner {E : xE} {B : Nat} {n : Nat} {K : Nat → Nat × Nat} {P : Nat → Nat → Nat} {I : Nat → Nat → Int32} {L : Nat → Nat → Int64}  {a1 : Int32} {q : Int32 × (Nat → Nat → Int32)} (d : Nat) (hd : 3 ≤ d) (G : GW K P)   (hm : mX12_thingOwner I a1 = some q) : MX E B d 0 0 yX12_thingOwner cX12_thingOwner 2 (some .int) [.ref 123, .int a1] (n, K, P, I, L) (some (.int q.1), (n, K, P, q.2, L)) := by
  refine MX_of (lv := [(0, .ref 123), (1, .int a1)]) (by decide +kernel) (Nat.le_of_ble_eq_true rfl) rfl ?_
  obtain ⟨d, rfl⟩ : ∃ d0, d = d0 + 1 := ⟨d - 1, by omega⟩
  unfold mX12_thingOwner at hm
  refine X_aload_n 0 dX12_thingOwner_0 rfl rfl rfl ?_
  refine X_iload_n 1 dX12_thingOwner_1 rfl rfl ?_
  obtain ⟨q1, e2, hm⟩ := ob hm
  refine X_cV1 (ci := 11) (kX12_isBare d (by omega) G e2) ml_X12_336 mi_X12_isBare rfl cf_11 (g_K123 G) rfl rfl (Nat.le_refl _) ⟨Nat.le_refl _, Nat.le_refl _⟩ (Nat.le_of_ble_eq_true rfl) dX12_thingOwner_2 ?_
  refine X_if_eq (tgt := 10) dX12_thingOwner_5 (by decide) (fun c3 => ?_) (fun c3 => ?_)
  · replace hm := ip c3 hm
    refine X_aload_n 0 dX12_thingOwner_10 rfl rfl rfl ?_
    refine X_iload_n 1 dX12_thingOwner_11 rfl rfl ?_
    refine X_aload_n 0 dX12_thingOwner_12 rfl rfl rfl ?_
    refine X_getPe fl_X12_9 (g_K123 G) rfl (g_P123_1 G) dX12_thingOwner_13 ?_
    refine X_bipush (v := (9 : Int32)) dX12_thingOwner_16 (by decide) ?_
    refine X_ialdJ (j := 9) (g_K124 G) rfl (by decide) dX12_thingOwner_18 ?_
    refine X_iconst (v := (0 : Int32)) dX12_thingOwner_19 (by decide) ?_
    obtain ⟨q4, e5, hm⟩ := ob hm
    refine X_cV0 (ci := 11) (kX12_countsCells d (by omega) G e5) ml_X12_392 mi_X12_countsCells rfl cf_11 (g_K123 G) rfl rfl (Nat.le_refl _) ⟨Nat.le_refl _, Nat.le_refl _⟩ (Nat.le_of_ble_eq_true rfl) dX12_thingOwner_20 ?_
    refine X_aload_n 0 dX12_thingOwner_23 rfl rfl rfl ?_
    refine X_aload_n 0 dX12_thingOwner_24 rfl rfl rfl ?_
    refine X_iload_n 1 dX12_thingOwner_25 rfl rfl ?_
    obtain ⟨q6, e7, hm⟩ := ob hm
    refine X_cV1 (ci := 11) (kX12_cellsIn d (by omega) G e7) ml_X12_396 mi_X12_cellsIn rfl cf_11 (g_K123 G) rfl rfl (Nat.le_refl _) ⟨Nat.le_refl _, Nat.le_refl _⟩ (Nat.le_of_ble_eq_true rfl) dX12_thingOwner_26 ?_
    refine X_aload_n 0 dX12_thingOwner_29 rfl rfl rfl ?_
    refine X_getPe fl_X12_9 (g_K123 G) rfl (g_P123_1 G) dX12_thingOwner_30 ?_
    refine X_iconst (v := (1 : Int32)) dX12_thingOwner_33 (by decide) ?_
    refine X_ialdJ (j := 1) (g_K124 G) rfl (by decide) dX12_thingOwner_34 ?_
    obtain ⟨q8, e9, hm⟩ := ob hm
    refine X_cV1 (ci := 11) (kX12_ownerByCells d (by omega) G e9) ml_X12_399 mi_X12_ownerByCells rfl cf_11 (g_K123 G) rfl rfl (Nat.le_refl _) ⟨Nat.le_refl _, Nat.le_refl _⟩ (Nat.le_of_ble_eq_true rfl) dX12_thingOwner_35 ?_
    replace hm := Option.some.inj hm
    subst hm
    exact X_iret dX12_thingOwner_38 rfl
  · replace hm := iq c3 hm
    refine X_iconst (v := (-1 : Int32)) dX12_thingOwner_8 (by decide) ?_
    replace hm := Option.some.inj hm
    subst hm
    exact X_iret dX12_thingOwner_9 rfl
def mX12_cellsOwned_4 (I : Nat → Nat → Int32)  : Nat → Int32 → Int32 → Int32 → Option (Int32)
  | 0, _, _, _ => none
  | f + 1, a1, a2, a3 => (if (I 124 4) ≤ a3 then (some a2) else (Option.bind (mX12_ownerOf I a3) (fun q2 => (if q2 = a1 then (mX12_cellsOwned_4 I f a1 (a2 ||| (xshl (1 : Int32) a3)) (a3 + 1)) else (mX12_cellsOwned_4 I f a1 (a2 ||| (0 : Int32)) (a3 + 1))))))
set_option maxHeartbeats 400000 in
set_option maxRecDepth 100000 in
theorem kX12_cellsOwned_4 {E : xE} {B : Nat} {n : Nat} {K : Nat → Nat × Nat} {P : Nat → Nat → Nat} {I : Nat → Nat → Int32} {L : Nat → Nat → Int64}   {q : Int32} (d : Nat) (hd : 3 ≤ d) (G : GW K P)   : ∀ (f : Nat) (a1 : Int32) (a2 : Int32) (a3 : Int32), mX12_cellsOwned_4 I f a1 a2 a3 = some q → X E B d 0 0 yX12_cellsOwned cX12_cellsOwned 4 (some .int) (some (.int q), (n, K, P, I, L)) 4 [(0, .ref 123), (1, .int a1), (2, .int a2), (3, .int a3)] [] 0 0 (n, K, P, I, L) := by
  obtain ⟨d, rfl⟩ : ∃ d0, d = d0 + 1 := ⟨d - 1, by omega⟩
  intro f
  induction f with
  | zero => intro _ _ _ hm; exact nomatch (show (none : Option (Int32)) = some q from hm)
  | succ f ih =>
    intro a1 a2 a3 hm
    rw [mX12_cellsOwned_4] at hm
    refine X_iload_n 3 dX12_cellsOwned_4 rfl rfl ?_
    refine X_aload_n 0 dX12_cellsOwned_5 rfl rfl rfl ?_
    refine X_getPe fl_X12_9 (g_K123 G) rfl (g_P123_1 G) dX12_cellsOwned_6 ?_
    refine X_iconst (v := (4 : Int32)) dX12_cellsOwned_9 (by decide) ?_
    refine X_ialdJ (j := 4) (g_K124 G) rfl (by decide) dX12_cellsOwned_10 ?_
    refine X_icmp_ge (tgt := 39) dX12_cellsOwned_11 (by decide) (fun c1 => ?_) (fun c1 => ?_)
    · replace hm := ip c1 hm
      refine X_iload_n 2 dX12_cellsOwned_39 rfl rfl ?_
      replace hm := Option.some.inj hm
      subst hm
      exact X_iret dX12_cellsOwned_40 rfl
    · replace hm := iq c1 hm
      refine X_iload_n 2 dX12_cellsOwned_14 rfl rfl ?_
      refine X_aload_n 0 dX12_cellsOwned_15 rfl rfl rfl ?_
      refine X_iload_n 3 dX12_cellsOwned_16 rfl rfl ?_
      obtain ⟨q2, e3, hm⟩ := ob hm
      refine X_cV1 (ci := 11) (kX12_ownerOf d (by omega) G e3) ml_X12_402 mi_X12_ownerOf rfl cf_11 (g_K123 G) rfl rfl (Nat.le_refl _) ⟨Nat.le_refl _, Nat.le_refl _⟩ (Nat.le_of_ble_eq_true rfl) dX12_cellsOwned_17 ?_
      refine X_iload_n 1 dX12_cellsOwned_20 rfl rfl ?_
      refine X_icmp_ne (tgt := 30) dX12_cellsOwned_21 (by decide) (fun c4 => ?_) (fun c4 => ?_)
      · replace hm := iq c4 hm
        refine X_iconst (v := (0 : Int32)) dX12_cellsOwned_30 (by decide) ?_
        refine X_ior dX12_cellsOwned_31 ?_
        refine X_istore_n (lv' := [(2, .int (a2 ||| (0 : Int32))), (0, .ref 123), (1, .int a1), (3, .int a3)]) dX12_cellsOwned_32 rfl (by decide) rfl ?_
        refine X_iinc (lv' := [(3, .int (a3 + 1)), (2, .int (a2 ||| (0 : Int32))), (0, .ref 123), (1, .int a1)]) 3 dX12_cellsOwned_33 rfl rfl (by decide) rfl ?_
        refine X_goto (tgt := 4) dX12_cellsOwned_36 (by decide) ?_
        exact X_lv [2, 3, 1, 0] rfl (ih _ _ _ hm)
      · replace hm := ip c4 hm
        refine X_iconst (v := (1 : Int32)) dX12_cellsOwned_24 (by decide) ?_
        refine X_iload_n 3 dX12_cellsOwned_25 rfl rfl ?_
        refine X_ishl dX12_cellsOwned_26 ?_
        refine X_goto (tgt := 31) dX12_cellsOwned_27 (by decide) ?_
        refine X_ior dX12_cellsOwned_31 ?_
        refine X_istore_n (lv' := [(2, .int (a2 ||| (xshl (1 : Int32) a3))), (0, .ref 123), (1, .int a1), (3, .int a3)]) dX12_cellsOwned_32 rfl (by decide) rfl ?_
        refine X_iinc (lv' := [(3, .int (a3 + 1)), (2, .int (a2 ||| (xshl (1 : Int32) a3))), (0, .ref 123), (1, .int a1)]) 3 dX12_cellsOwned_33 rfl rfl (by decide) rfl ?_
        refine X_goto (tgt := 4) dX12_cellsOwned_36 (by decide) ?_
        exact X_lv [2, 3, 1, 0] rfl (ih _ _ _ hm)
def mX12_cellsOwned (I : Nat → Nat → Int32) (a1 : Int32) : Option (Int32) := (mX12_cellsOwned_4 I xf a1 (0 : Int32) (0 : Int32))
set_option maxHeartbeats 400000 in
set_option maxRecDepth 100000 in
theorem kX12_cellsOwned {E : xE} {B : Nat} {n : Nat} {K : Nat → Nat × Nat} {P : Nat → Nat → Nat} {I : Nat → Nat → Int32} {L : Nat → Nat → Int64}  {a1 : Int32} {q : Int32} (d : Nat) (hd : 3 ≤ d) (G : GW K P)   (hm : mX12_cellsOwned I a1 = some q) : MX E B d 0 0 yX12_cellsOwned cX12_cellsOwned 4 (some .int) [.ref 123, .int a1] (n, K, P, I, L) (some (.int q), (n, K, P, I, L)) := by
  refine MX_of (lv := [(0, .ref 123), (1, .int a1)]) (by decide +kernel) (Nat.le_of_ble_eq_true rfl) rfl ?_
  obtain ⟨d, rfl⟩ : ∃ d0, d = d0 + 1 := ⟨d - 1, by omega⟩
  unfold mX12_cellsOwned at hm
  refine X_iconst (v := (0 : Int32)) dX12_cellsOwned_0 (by decide) ?_
  refine X_istore_n (lv' := [(2, .int (0 : Int32)), (0, .ref 123), (1, .int a1)]) dX12_cellsOwned_1 rfl (by decide) rfl ?_
  refine X_iconst (v := (0 : Int32)) dX12_cellsOwned_2 (by decide) ?_
  refine X_istore_n (lv' := [(3, .int (0 : Int32)), (2, .int (0 : Int32)), (0, .ref 123), (1, .int a1)]) dX12_cellsOwned_3 rfl (by decide) rfl ?_
  refine X_lv [2, 3, 1, 0] rfl (kX12_cellsOwned_4 _ hd G xf _ _ _  hm)
def mX12_cell (I : Nat → Nat → Int32) (a1 : Int32) (a2 : Int32) : Option (Int32) := (Option.bind (mX12_isCell I a1) (fun q1 => (if q1 = 0 then (some (-2 : Int32)) else (if a2 = (0 : Int32) then (Option.bind (mX12_thingOf I a1) (fun q5 => (some q5))) else (if a2 = (1 : Int32) then (if inb a1 16 = true then (some (I 131 (ix a1))) else none) else (if a2 = (2 : Int32) then (Option.bind (mX12_ownerOf I a1) (fun q10 => (some q10))) else (if a2 = (3 : Int32) then (Option.bind (mX12_topOf I a1) (fun q13 => (some q13))) else (if a2 = (4 : Int32) then (Option.bind (mX12_isTopWet I a1) (fun q16 => (if q16 = 0 then (some (0 : Int32)) else (some (1 : Int32))))) else (some (-2 : Int32))))))))))
set_option maxHeartbeats 400000 in
set_option maxRecDepth 100000 in
theorem kX12_cell {E : xE} {B : Nat} {n : Nat} {K : Nat → Nat × Nat} {P : Nat → Nat → Nat} {I : Nat → Nat → Int32} {L : Nat → Nat → Int64}  {a1 : Int32} {a2 : Int32} {q : Int32} (d : Nat) (hd : 3 ≤ d) (G : GW K P)   (hm : mX12_cell I a1 a2 = some q) : MX E B d 0 0 yX12_cell cX12_cell 3 (some .int) [.ref 123, .int a1, .int a2] (n, K, P, I, L) (some (.int q), (n, K, P, I, L)) := by
  refine MX_of (lv := [(0, .ref 123), (1, .int a1), (2, .int a2)]) (by decide +kernel) (Nat.le_of_ble_eq_true rfl) rfl ?_
  obtain ⟨d, rfl⟩ : ∃ d0, d = d0 + 1 := ⟨d - 1, by omega⟩
  unfold mX12_cell at hm
  refine X_aload_n 0 dX12_cell_0 rfl rfl rfl ?_
  refine X_iload_n 1 dX12_cell_1 rfl rfl ?_
  obtain ⟨q1, e2, hm⟩ := ob hm
  refine X_cV1 (ci := 11) (kX12_isCell d (by omega) G e2) ml_X12_405 mi_X12_isCell rfl cf_11 (g_K123 G) rfl rfl (Nat.le_refl _) ⟨Nat.le_refl _, Nat.le_refl _⟩ (Nat.le_of_ble_eq_true rfl) dX12_cell_2 ?_
  refine X_if_ne (tgt := 11) dX12_cell_5 (by decide) (fun c3 => ?_) (fun c3 => ?_)
  · replace hm := iq c3 hm
    refine X_iload_n 2 dX12_cell_11 rfl rfl ?_
    rcases Decidable.em (a2 = (0 : Int32)) with c4 | c4
    · replace hm := ip c4 hm
      refine X_swK (off := 36) (tgt := 48) c4 dX12_cell_12 (by decide) (by decide) (by decide) (by decide) ?_
      refine X_aload_n 0 dX12_cell_48 rfl rfl rfl ?_
      refine X_iload_n 1 dX12_cell_49 rfl rfl ?_
      obtain ⟨q5, e6, hm⟩ := ob hm
      refine X_cV1 (ci := 11) (kX12_thingOf d (by omega) G e6) ml_X12_408 mi_X12_thingOf rfl cf_11 (g_K123 G) rfl rfl (Nat.le_refl _) ⟨Nat.le_refl _, Nat.le_refl _⟩ (Nat.le_of_ble_eq_true rfl) dX12_cell_50 ?_
      replace hm := Option.some.inj hm
      subst hm
      exact X_iret dX12_cell_53 rfl
    · replace hm := iq c4 hm
      rcases Decidable.em (a2 = (1 : Int32)) with c7 | c7
      · replace hm := ip c7 hm
        refine X_swK (off := 42) (tgt := 54) c7 dX12_cell_12 (by decide) (by decide) (by decide) (by decide) ?_
        refine X_aload_n 0 dX12_cell_54 rfl rfl rfl ?_
        refine X_getPe fl_X12_31 (g_K123 G) rfl (g_P123_8 G) dX12_cell_55 ?_
        refine X_iload_n 1 dX12_cell_58 rfl rfl ?_
        obtain ⟨g8, hm⟩ := og hm
        refine X_ialdJ (g_K131 G) g8 rfl dX12_cell_59 ?_
        replace hm := Option.some.inj hm
        subst hm
        exact X_iret dX12_cell_60 rfl
      · replace hm := iq c7 hm
        rcases Decidable.em (a2 = (2 : Int32)) with c9 | c9
        · replace hm := ip c9 hm
          refine X_swK (off := 49) (tgt := 61) c9 dX12_cell_12 (by decide) (by decide) (by decide) (by decide) ?_
          refine X_aload_n 0 dX12_cell_61 rfl rfl rfl ?_
          refine X_iload_n 1 dX12_cell_62 rfl rfl ?_
          obtain ⟨q10, e11, hm⟩ := ob hm
          refine X_cV1 (ci := 11) (kX12_ownerOf d (by omega) G e11) ml_X12_402 mi_X12_ownerOf rfl cf_11 (g_K123 G) rfl rfl (Nat.le_refl _) ⟨Nat.le_refl _, Nat.le_refl _⟩ (Nat.le_of_ble_eq_true rfl) dX12_cell_63 ?_
          replace hm := Option.some.inj hm
          subst hm
          exact X_iret dX12_cell_66 rfl
        · replace hm := iq c9 hm
          rcases Decidable.em (a2 = (3 : Int32)) with c12 | c12
          · replace hm := ip c12 hm
            refine X_swK (off := 55) (tgt := 67) c12 dX12_cell_12 (by decide) (by decide) (by decide) (by decide) ?_
            refine X_aload_n 0 dX12_cell_67 rfl rfl rfl ?_
            refine X_iload_n 1 dX12_cell_68 rfl rfl ?_
            obtain ⟨q13, e14, hm⟩ := ob hm
            refine X_cV1 (ci := 11) (kX12_topOf d (by omega) G e14) ml_X12_411 mi_X12_topOf rfl cf_11 (g_K123 G) rfl rfl (Nat.le_refl _) ⟨Nat.le_refl _, Nat.le_refl _⟩ (Nat.le_of_ble_eq_true rfl) dX12_cell_69 ?_
            replace hm := Option.some.inj hm
            subst hm
            exact X_iret dX12_cell_72 rfl
          · replace hm := iq c12 hm
            rcases Decidable.em (a2 = (4 : Int32)) with c15 | c15
            · replace hm := ip c15 hm
              refine X_swK (off := 61) (tgt := 73) c15 dX12_cell_12 (by decide) (by decide) (by decide) (by decide) ?_
              refine X_aload_n 0 dX12_cell_73 rfl rfl rfl ?_
              refine X_iload_n 1 dX12_cell_74 rfl rfl ?_
              obtain ⟨q16, e17, hm⟩ := ob hm
              refine X_cV1 (ci := 11) (kX12_isTopWet d (by omega) G e17) ml_X12_414 mi_X12_isTopWet rfl cf_11 (g_K123 G) rfl rfl (Nat.le_refl _) ⟨Nat.le_refl _, Nat.le_refl _⟩ (Nat.le_of_ble_eq_true rfl) dX12_cell_75 ?_
              refine X_if_eq (tgt := 85) dX12_cell_78 (by decide) (fun c18 => ?_) (fun c18 => ?_)
              · replace hm := ip c18 hm
                refine X_iconst (v := (0 : Int32)) dX12_cell_85 (by decide) ?_
                replace hm := Option.some.inj hm
                subst hm
                exact X_iret dX12_cell_86 rfl
              · replace hm := iq c18 hm
                refine X_iconst (v := (1 : Int32)) dX12_cell_81 (by decide) ?_
                refine X_goto (tgt := 86) dX12_cell_82 (by decide) ?_
                replace hm := Option.some.inj hm
                subst hm
                exact X_iret dX12_cell_86 rfl
            · replace hm := iq c15 hm
              refine X_tableOut (tgt := 87) dX12_cell_12 (sw_out 5 (by decide) (fun i hi => by
                have hi2 : i = 0 ∨ i = 1 ∨ i = 2 ∨ i = 3 ∨ i = 4 := by omega
                rcases hi2 with rfl | rfl | rfl | rfl | rfl
                · exact c4
                · exact c7
                · exact c9
                · exact c12
                · exact c15)) (by decide) ?_
              refine X_bipush (v := (-2 : Int32)) dX12_cell_87 (by decide) ?_
              replace hm := Option.some.inj hm
              subst hm
              exact X_iret dX12_cell_89 rfl
  · replace hm := ip c3 hm
    refine X_bipush (v := (-2 : Int32)) dX12_cell_8 (by decide) ?_
    replace hm := Option.some.inj hm
    subst hm
    exact X_iret dX12_cell_10 rfl
def mX12_coat (I : Nat → Nat → Int32) (a1 : Int32) (a2 : Int32) (a3 : Int32) : Option (Int32) := (Option.bind (mX12_isCell I a1) (fun q1 => (if q1 = 0 then (some (-2 : Int32)) else (if a2 < 0 then (some (-2 : Int32)) else (if inb a1 16 = true then (if a2 < (I 131 (ix a1)) then (if inb a1 16 = true then (if a3 = (0 : Int32) then (if inb (((((5 : Int32) * a1) + (I 131 (ix a1))) - (1 : Int32)) - a2) 80 = true then (some (I 132 (ix (((((5 : Int32) * a1) + (I 131 (ix a1))) - (1 : Int32)) - a2)))) else none) else (if a3 = (1 : Int32) then (if inb (((((5 : Int32) * a1) + (I 131 (ix a1))) - (1 : Int32)) - a2) 80 = true then (if inb (I 132 (ix (((((5 : Int32) * a1) + (I 131 (ix a1))) - (1 : Int32)) - a2))) 4 = true then (some (I 127 (ix (I 132 (ix (((((5 : Int32) * a1) + (I 131 (ix a1))) - (1 : Int32)) - a2)))))) else none) else none) else (if a3 = (2 : Int32) then (if inb (((((5 : Int32) * a1) + (I 131 (ix a1))) - (1 : Int32)) - a2) 80 = true then (some (I 133 (ix (((((5 : Int32) * a1) + (I 131 (ix a1))) - (1 : Int32)) - a2)))) else none) else (some (-2 : Int32))))) else none) else (some (-2 : Int32))) else none)))))
set_option maxHeartbeats 400000 in
set_option maxRecDepth 100000 in
theorem kX12_coat {E : xE} {B : Nat} {n : Nat} {K : Nat → Nat × Nat} {P : Nat → Nat → Nat} {I : Nat → Nat → Int32} {L : Nat → Nat → Int64}  {a1 : Int32} {a2 : Int32} {a3 : Int32} {q : Int32} (d : Nat) (hd : 2 ≤ d) (G : GW K P)   (hm : mX12_coat I a1 a2 a3 = some q) : MX E B d 0 0 yX12_coat cX12_coat 5 (some .int) [.ref 123, .int a1, .int a2, .int a3] (n, K, P, I, L) (some (.int q), (n, K, P, I, L)) := by
  refine MX_of (lv := [(0, .ref 123), (1, .int a1), (2, .int a2), (3, .int a3)]) (by decide +kernel) (Nat.le_of_ble_eq_true rfl) rfl ?_
  obtain ⟨d, rfl⟩ : ∃ d0, d = d0 + 1 := ⟨d - 1, by omega⟩
  unfold mX12_coat at hm
  refine X_aload_n 0 dX12_coat_0 rfl rfl rfl ?_
  refine X_iload_n 1 dX12_coat_1 rfl rfl ?_
  obtain ⟨q1, e2, hm⟩ := ob hm
  refine X_cV1 (ci := 11) (kX12_isCell d (by omega) G e2) ml_X12_405 mi_X12_isCell rfl cf_11 (g_K123 G) rfl rfl (Nat.le_refl _) ⟨Nat.le_refl _, Nat.le_refl _⟩ (Nat.le_of_ble_eq_true rfl) dX12_coat_2 ?_
  refine X_if_eq (tgt := 22) dX12_coat_5 (by decide) (fun c3 => ?_) (fun c3 => ?_)
  · replace hm := ip c3 hm
    refine X_bipush (v := (-2 : Int32)) dX12_coat_22 (by decide) ?_
    replace hm := Option.some.inj hm
    subst hm
    exact X_iret dX12_coat_24 rfl
  · replace hm := iq c3 hm
    refine X_iload_n 2 dX12_coat_8 rfl rfl ?_
    refine X_if_lt (tgt := 22) dX12_coat_9 (by decide) (fun c4 => ?_) (fun c4 => ?_)
    · replace hm := ip c4 hm
      refine X_bipush (v := (-2 : Int32)) dX12_coat_22 (by decide) ?_
      replace hm := Option.some.inj hm
      subst hm
      exact X_iret dX12_coat_24 rfl
    · replace hm := iq c4 hm
      refine X_iload_n 2 dX12_coat_12 rfl rfl ?_
      refine X_aload_n 0 dX12_coat_13 rfl rfl rfl ?_
      refine X_getPe fl_X12_31 (g_K123 G) rfl (g_P123_8 G) dX12_coat_14 ?_
      refine X_iload_n 1 dX12_coat_17 rfl rfl ?_
      obtain ⟨g5, hm⟩ := og hm
      refine X_ialdJ (g_K131 G) g5 rfl dX12_coat_18 ?_
      refine X_icmp_lt (tgt := 25) dX12_coat_19 (by decide) (fun c6 => ?_) (fun c6 => ?_)
      · replace hm := ip c6 hm
        refine X_iconst (v := (5 : Int32)) dX12_coat_25 (by decide) ?_
        refine X_iload_n 1 dX12_coat_26 rfl rfl ?_
        refine X_imul dX12_coat_27 ?_
        refine X_aload_n 0 dX12_coat_28 rfl rfl rfl ?_
        refine X_getPe fl_X12_31 (g_K123 G) rfl (g_P123_8 G) dX12_coat_29 ?_
        refine X_iload_n 1 dX12_coat_32 rfl rfl ?_
        obtain ⟨g7, hm⟩ := og hm
        refine X_ialdJ (g_K131 G) g7 rfl dX12_coat_33 ?_
        refine X_iadd dX12_coat_34 ?_
        refine X_iconst (v := (1 : Int32)) dX12_coat_35 (by decide) ?_
        refine X_isub dX12_coat_36 ?_
        refine X_iload_n 2 dX12_coat_37 rfl rfl ?_
        refine X_isub dX12_coat_38 ?_
        refine X_istore (lv' := [(4, .int (((((5 : Int32) * a1) + (I 131 (ix a1))) - (1 : Int32)) - a2)), (0, .ref 123), (1, .int a1), (2, .int a2), (3, .int a3)]) dX12_coat_39 (by decide) rfl ?_
        refine X_iload_n 4 dX12_coat_41 rfl rfl ?_
        rcases Decidable.em (a3 = (0 : Int32)) with c8 | c8
        · replace hm := ip c8 hm
          refine X_swK (off := 26) (tgt := 68) c8 dX12_coat_42 (by decide) (by decide) (by decide) (by decide) ?_
          refine X_aload_n 1 dX12_coat_68 rfl rfl rfl ?_
          refine X_getPe fl_X12_34 (g_K123 G) rfl (g_P123_9 G) dX12_coat_69 ?_
          refine X_iload 0 dX12_coat_72 rfl ?_
          obtain ⟨g9, hm⟩ := og hm
          refine X_ialdJ (g_K132 G) g9 rfl dX12_coat_74 ?_
          replace hm := Option.some.inj hm
          subst hm
          exact X_iret dX12_coat_75 rfl
        · replace hm := iq c8 hm
          rcases Decidable.em (a3 = (1 : Int32)) with c10 | c10
          · replace hm := ip c10 hm
            refine X_swK (off := 34) (tgt := 76) c10 dX12_coat_42 (by decide) (by decide) (by decide) (by decide) ?_
            refine X_aload_n 1 dX12_coat_76 rfl rfl rfl ?_
            refine X_getPe fl_X12_19 (g_K123 G) rfl (g_P123_4 G) dX12_coat_77 ?_
            refine X_aload_n 1 dX12_coat_80 rfl rfl rfl ?_
            refine X_getPe fl_X12_34 (g_K123 G) rfl (g_P123_9 G) dX12_coat_81 ?_
            refine X_iload 0 dX12_coat_84 rfl ?_
            obtain ⟨g11, hm⟩ := og hm
            refine X_ialdJ (g_K132 G) g11 rfl dX12_coat_86 ?_
            obtain ⟨g12, hm⟩ := og hm
            refine X_ialdJ (g_K127 G) g12 rfl dX12_coat_87 ?_
            replace hm := Option.some.inj hm
            subst hm
            exact X_iret dX12_coat_88 rfl
          · replace hm := iq c10 hm
            rcases Decidable.em (a3 = (2 : Int32)) with c13 | c13
            · replace hm := ip c13 hm
              refine X_swK (off := 47) (tgt := 89) c13 dX12_coat_42 (by decide) (by decide) (by decide) (by decide) ?_
              refine X_aload_n 1 dX12_coat_89 rfl rfl rfl ?_
              refine X_getPe fl_X12_37 (g_K123 G) rfl (g_P123_10 G) dX12_coat_90 ?_
              refine X_iload 0 dX12_coat_93 rfl ?_
              obtain ⟨g14, hm⟩ := og hm
              refine X_ialdJ (g_K133 G) g14 rfl dX12_coat_95 ?_
              replace hm := Option.some.inj hm
              subst hm
              exact X_iret dX12_coat_96 rfl
            · replace hm := iq c13 hm
              refine X_tableOut (tgt := 97) dX12_coat_42 (sw_out 3 (by decide) (fun i hi => by
                have hi2 : i = 0 ∨ i = 1 ∨ i = 2 := by omega
                rcases hi2 with rfl | rfl | rfl
                · exact c8
                · exact c10
                · exact c13)) (by decide) ?_
              refine X_bipush (v := (-2 : Int32)) dX12_coat_97 (by decide) ?_
              replace hm := Option.some.inj hm
              subst hm
              exact X_iret dX12_coat_99 rfl
      · replace hm := iq c6 hm
        refine X_bipush (v := (-2 : Int32)) dX12_coat_22 (by decide) ?_
        replace hm := Option.some.inj hm
        subst hm
        exact X_iret dX12_coat_24 rfl
def mX12_thing  (I : Nat → Nat → Int32) (a1 : Int32) (a2 : Int32) : Option (Int32 × (Nat → Nat → Int32)) := (Option.bind (mX12_isThing I a1) (fun q1 => (if q1 = 0 then (some ((-2 : Int32), I)) else (if a2 = (0 : Int32) then (if inb a1 5 = true then (some ((I 125 (ix a1)), I)) else none) else (if a2 = (1 : Int32) then (Option.bind (mX12_cellsIn I a1) (fun q7 => (some (q7, I)))) else (if a2 = (2 : Int32) then (if inb a1 4 = true then (some ((I 126 (ix a1)), I)) else none) else (if a2 = (3 : Int32) then (Option.bind (mX12_thingOwner I a1) (fun q12 => (some (q12.1, q12.2)))) else (if a2 = (4 : Int32) then (Option.bind (mX12_isBare I a1) (fun q15 => (if q15 = 0 then (some ((0 : Int32), I)) else (some ((1 : Int32), I))))) else (some ((-2 : Int32), I))))))))))
set_option maxHeartbeats 400000 in
set_option maxRecDepth 100000 in
theorem kX12_thing {E : xE} {B : Nat} {n : Nat} {K : Nat → Nat × Nat} {P : Nat → Nat → Nat} {I : Nat → Nat → Int32} {L : Nat → Nat → Int64}  {a1 : Int32} {a2 : Int32} {q : Int32 × (Nat → Nat → Int32)} (d : Nat) (hd : 4 ≤ d) (G : GW K P)   (hm : mX12_thing I a1 a2 = some q) : MX E B d 0 0 yX12_thing cX12_thing 3 (some .int) [.ref 123, .int a1, .int a2] (n, K, P, I, L) (some (.int q.1), (n, K, P, q.2, L)) := by
  refine MX_of (lv := [(0, .ref 123), (1, .int a1), (2, .int a2)]) (by decide +kernel) (Nat.le_of_ble_eq_true rfl) rfl ?_
  obtain ⟨d, rfl⟩ : ∃ d0, d = d0 + 1 := ⟨d - 1, by omega⟩
  unfold mX12_thing at hm
  refine X_aload_n 0 dX12_thing_0 rfl rfl rfl ?_
  refine X_iload_n 1 dX12_thing_1 rfl rfl ?_
  obtain ⟨q1, e2, hm⟩ := ob hm
  refine X_cV1 (ci := 11) (kX12_isThing d (by omega) G e2) ml_X12_417 mi_X12_isThing rfl cf_11 (g_K123 G) rfl rfl (Nat.le_refl _) ⟨Nat.le_refl _, Nat.le_refl _⟩ (Nat.le_of_ble_eq_true rfl) dX12_thing_2 ?_
  refine X_if_ne (tgt := 11) dX12_thing_5 (by decide) (fun c3 => ?_) (fun c3 => ?_)
  · replace hm := iq c3 hm
    refine X_iload_n 2 dX12_thing_11 rfl rfl ?_
    rcases Decidable.em (a2 = (0 : Int32)) with c4 | c4
    · replace hm := ip c4 hm
      refine X_swK (off := 36) (tgt := 48) c4 dX12_thing_12 (by decide) (by decide) (by decide) (by decide) ?_
      refine X_aload_n 0 dX12_thing_48 rfl rfl rfl ?_
      refine X_getPe fl_X12_13 (g_K123 G) rfl (g_P123_2 G) dX12_thing_49 ?_
      refine X_iload_n 1 dX12_thing_52 rfl rfl ?_
      obtain ⟨g5, hm⟩ := og hm
      refine X_ialdJ (g_K125 G) g5 rfl dX12_thing_53 ?_
      replace hm := Option.some.inj hm
      subst hm
      exact X_iret dX12_thing_54 rfl
    · replace hm := iq c4 hm
      rcases Decidable.em (a2 = (1 : Int32)) with c6 | c6
      · replace hm := ip c6 hm
        refine X_swK (off := 43) (tgt := 55) c6 dX12_thing_12 (by decide) (by decide) (by decide) (by decide) ?_
        refine X_aload_n 0 dX12_thing_55 rfl rfl rfl ?_
        refine X_iload_n 1 dX12_thing_56 rfl rfl ?_
        obtain ⟨q7, e8, hm⟩ := ob hm
        refine X_cV1 (ci := 11) (kX12_cellsIn d (by omega) G e8) ml_X12_396 mi_X12_cellsIn rfl cf_11 (g_K123 G) rfl rfl (Nat.le_refl _) ⟨Nat.le_refl _, Nat.le_refl _⟩ (Nat.le_of_ble_eq_true rfl) dX12_thing_57 ?_
        replace hm := Option.some.inj hm
        subst hm
        exact X_iret dX12_thing_60 rfl
      · replace hm := iq c6 hm
        rcases Decidable.em (a2 = (2 : Int32)) with c9 | c9
        · replace hm := ip c9 hm
          refine X_swK (off := 49) (tgt := 61) c9 dX12_thing_12 (by decide) (by decide) (by decide) (by decide) ?_
          refine X_aload_n 0 dX12_thing_61 rfl rfl rfl ?_
          refine X_getPe fl_X12_16 (g_K123 G) rfl (g_P123_3 G) dX12_thing_62 ?_
          refine X_iload_n 1 dX12_thing_65 rfl rfl ?_
          obtain ⟨g10, hm⟩ := og hm
          refine X_ialdJ (g_K126 G) g10 rfl dX12_thing_66 ?_
          replace hm := Option.some.inj hm
          subst hm
          exact X_iret dX12_thing_67 rfl
        · replace hm := iq c9 hm
          rcases Decidable.em (a2 = (3 : Int32)) with c11 | c11
          · replace hm := ip c11 hm
            refine X_swK (off := 56) (tgt := 68) c11 dX12_thing_12 (by decide) (by decide) (by decide) (by decide) ?_
            refine X_aload_n 0 dX12_thing_68 rfl rfl rfl ?_
            refine X_iload_n 1 dX12_thing_69 rfl rfl ?_
            obtain ⟨q12, e13, hm⟩ := ob hm
            refine X_cV1 (ci := 11) (kX12_thingOwner d (by omega) G e13) ml_X12_420 mi_X12_thingOwner rfl cf_11 (g_K123 G) rfl rfl (Nat.le_refl _) ⟨Nat.le_refl _, Nat.le_refl _⟩ (Nat.le_of_ble_eq_true rfl) dX12_thing_70 ?_
            replace hm := Option.some.inj hm
            subst hm
            exact X_iret dX12_thing_73 rfl
          · replace hm := iq c11 hm
            rcases Decidable.em (a2 = (4 : Int32)) with c14 | c14
            · replace hm := ip c14 hm
              refine X_swK (off := 62) (tgt := 74) c14 dX12_thing_12 (by decide) (by decide) (by decide) (by decide) ?_
              refine X_aload_n 0 dX12_thing_74 rfl rfl rfl ?_
              refine X_iload_n 1 dX12_thing_75 rfl rfl ?_
              obtain ⟨q15, e16, hm⟩ := ob hm
              refine X_cV1 (ci := 11) (kX12_isBare d (by omega) G e16) ml_X12_336 mi_X12_isBare rfl cf_11 (g_K123 G) rfl rfl (Nat.le_refl _) ⟨Nat.le_refl _, Nat.le_refl _⟩ (Nat.le_of_ble_eq_true rfl) dX12_thing_76 ?_
              refine X_if_eq (tgt := 86) dX12_thing_79 (by decide) (fun c17 => ?_) (fun c17 => ?_)
              · replace hm := ip c17 hm
                refine X_iconst (v := (0 : Int32)) dX12_thing_86 (by decide) ?_
                replace hm := Option.some.inj hm
                subst hm
                exact X_iret dX12_thing_87 rfl
              · replace hm := iq c17 hm
                refine X_iconst (v := (1 : Int32)) dX12_thing_82 (by decide) ?_
                refine X_goto (tgt := 87) dX12_thing_83 (by decide) ?_
                replace hm := Option.some.inj hm
                subst hm
                exact X_iret dX12_thing_87 rfl
            · replace hm := iq c14 hm
              refine X_tableOut (tgt := 88) dX12_thing_12 (sw_out 5 (by decide) (fun i hi => by
                have hi2 : i = 0 ∨ i = 1 ∨ i = 2 ∨ i = 3 ∨ i = 4 := by omega
                rcases hi2 with rfl | rfl | rfl | rfl | rfl
                · exact c4
                · exact c6
                · exact c9
                · exact c11
                · exact c14)) (by decide) ?_
              refine X_bipush (v := (-2 : Int32)) dX12_thing_88 (by decide) ?_
              replace hm := Option.some.inj hm
              subst hm
              exact X_iret dX12_thing_90 rfl
  · replace hm := ip c3 hm
    refine X_bipush (v := (-2 : Int32)) dX12_thing_8 (by decide) ?_
    replace hm := Option.some.inj hm
    subst hm
    exact X_iret dX12_thing_10 rfl
def mX12_painter_65   : Nat → (Nat → Nat → Int32) → Int32 → Int32 → Int32 → Option (Int32 × (Nat → Nat → Int32))
  | 0, _, _, _, _ => none
  | f + 1, I, a1, a3, a4 => (if (I 124 3) ≤ a4 then (some (a3, I)) else (Option.bind (mX12_thingOwner I a4) (fun q13 => (if q13.1 = a1 then (mX12_painter_65 f q13.2 a1 (a3 ||| (xshl (1 : Int32) a4)) (a4 + 1)) else (mX12_painter_65 f q13.2 a1 (a3 ||| (0 : Int32)) (a4 + 1))))))
set_option maxHeartbeats 400000 in
set_option maxRecDepth 100000 in
theorem kX12_painter_65 {E : xE} {B : Nat} {n : Nat} {K : Nat → Nat × Nat} {P : Nat → Nat → Nat} {L : Nat → Nat → Int64}   {q : Int32 × (Nat → Nat → Int32)} (d : Nat) (hd : 4 ≤ d) (G : GW K P)   : ∀ (f : Nat) (I : Nat → Nat → Int32) (a1 : Int32) (a3 : Int32) (a4 : Int32), mX12_painter_65 f I a1 a3 a4 = some q → X E B d 0 0 yX12_painter cX12_painter 5 (some .int) (some (.int q.1), (n, K, P, q.2, L)) 65 [(0, .ref 123), (1, .int a1), (3, .int a3), (4, .int a4)] [] 0 0 (n, K, P, I, L) := by
  obtain ⟨d, rfl⟩ : ∃ d0, d = d0 + 1 := ⟨d - 1, by omega⟩
  intro f
  induction f with
  | zero => intro _ _ _ _ hm; exact nomatch (show (none : Option (Int32 × (Nat → Nat → Int32))) = some q from hm)
  | succ f ih =>
    intro I a1 a3 a4 hm
    rw [mX12_painter_65] at hm
    refine X_iload 3 dX12_painter_65 rfl ?_
    refine X_aload_n 0 dX12_painter_67 rfl rfl rfl ?_
    refine X_getPe fl_X12_9 (g_K123 G) rfl (g_P123_1 G) dX12_painter_68 ?_
    refine X_iconst (v := (3 : Int32)) dX12_painter_71 (by decide) ?_
    refine X_ialdJ (j := 3) (g_K124 G) rfl (by decide) dX12_painter_72 ?_
    refine X_icmp_ge (tgt := 103) dX12_painter_73 (by decide) (fun c12 => ?_) (fun c12 => ?_)
    · replace hm := ip c12 hm
      refine X_iload_n 2 dX12_painter_103 rfl rfl ?_
      replace hm := Option.some.inj hm
      subst hm
      exact X_iret dX12_painter_104 rfl
    · replace hm := iq c12 hm
      refine X_iload_n 2 dX12_painter_76 rfl rfl ?_
      refine X_aload_n 0 dX12_painter_77 rfl rfl rfl ?_
      refine X_iload 3 dX12_painter_78 rfl ?_
      obtain ⟨q13, e14, hm⟩ := ob hm
      refine X_cV1 (ci := 11) (kX12_thingOwner d (by omega) G e14) ml_X12_420 mi_X12_thingOwner rfl cf_11 (g_K123 G) rfl rfl (Nat.le_refl _) ⟨Nat.le_refl _, Nat.le_refl _⟩ (Nat.le_of_ble_eq_true rfl) dX12_painter_80 ?_
      refine X_iload_n 1 dX12_painter_83 rfl rfl ?_
      refine X_icmp_ne (tgt := 94) dX12_painter_84 (by decide) (fun c15 => ?_) (fun c15 => ?_)
      · replace hm := iq c15 hm
        refine X_iconst (v := (0 : Int32)) dX12_painter_94 (by decide) ?_
        refine X_ior dX12_painter_95 ?_
        refine X_istore_n (lv' := [(3, .int (a3 ||| (0 : Int32))), (0, .ref 123), (1, .int a1), (4, .int a4)]) dX12_painter_96 rfl (by decide) rfl ?_
        refine X_iinc (lv' := [(4, .int (a4 + 1)), (3, .int (a3 ||| (0 : Int32))), (0, .ref 123), (1, .int a1)]) 3 dX12_painter_97 rfl rfl (by decide) rfl ?_
        refine X_goto (tgt := 65) dX12_painter_100 (by decide) ?_
        exact X_lv [2, 3, 1, 0] rfl (ih _ _ _ _ hm)
      · replace hm := ip c15 hm
        refine X_iconst (v := (1 : Int32)) dX12_painter_87 (by decide) ?_
        refine X_iload 3 dX12_painter_88 rfl ?_
        refine X_ishl dX12_painter_90 ?_
        refine X_goto (tgt := 95) dX12_painter_91 (by decide) ?_
        refine X_ior dX12_painter_95 ?_
        refine X_istore_n (lv' := [(3, .int (a3 ||| (xshl (1 : Int32) a4))), (0, .ref 123), (1, .int a1), (4, .int a4)]) dX12_painter_96 rfl (by decide) rfl ?_
        refine X_iinc (lv' := [(4, .int (a4 + 1)), (3, .int (a3 ||| (xshl (1 : Int32) a4))), (0, .ref 123), (1, .int a1)]) 3 dX12_painter_97 rfl rfl (by decide) rfl ?_
        refine X_goto (tgt := 65) dX12_painter_100 (by decide) ?_
        exact X_lv [2, 3, 1, 0] rfl (ih _ _ _ _ hm)
def mX12_painter  (I : Nat → Nat → Int32) (a1 : Int32) (a2 : Int32) : Option (Int32 × (Nat → Nat → Int32)) := (Option.bind (mX12_isPainter I a1) (fun q1 => (if q1 = 0 then (some ((-1 : Int32), I)) else (if a2 = (0 : Int32) then (if inb a1 4 = true then (some ((I 127 (ix a1)), I)) else none) else (if a2 = (1 : Int32) then (if inb a1 4 = true then (some ((I 128 (ix a1)), I)) else none) else (if a2 = (2 : Int32) then (Option.bind (mX12_cellsOwned I a1) (fun q9 => (some (q9, I)))) else (if a2 = (3 : Int32) then (mX12_painter_65 xf I a1 (0 : Int32) (0 : Int32)) else (some ((-1 : Int32), I)))))))))
set_option maxHeartbeats 400000 in
set_option maxRecDepth 100000 in
theorem kX12_painter {E : xE} {B : Nat} {n : Nat} {K : Nat → Nat × Nat} {P : Nat → Nat → Nat} {I : Nat → Nat → Int32} {L : Nat → Nat → Int64}  {a1 : Int32} {a2 : Int32} {q : Int32 × (Nat → Nat → Int32)} (d : Nat) (hd : 4 ≤ d) (G : GW K P)   (hm : mX12_painter I a1 a2 = some q) : MX E B d 0 0 yX12_painter cX12_painter 5 (some .int) [.ref 123, .int a1, .int a2] (n, K, P, I, L) (some (.int q.1), (n, K, P, q.2, L)) := by
  refine MX_of (lv := [(0, .ref 123), (1, .int a1), (2, .int a2)]) (by decide +kernel) (Nat.le_of_ble_eq_true rfl) rfl ?_
  obtain ⟨d, rfl⟩ : ∃ d0, d = d0 + 1 := ⟨d - 1, by omega⟩
  unfold mX12_painter at hm
  refine X_aload_n 0 dX12_painter_0 rfl rfl rfl ?_
  refine X_iload_n 1 dX12_painter_1 rfl rfl ?_
  obtain ⟨q1, e2, hm⟩ := ob hm
  refine X_cV1 (ci := 11) (kX12_isPainter d (by omega) G e2) ml_X12_423 mi_X12_isPainter rfl cf_11 (g_K123 G) rfl rfl (Nat.le_refl _) ⟨Nat.le_refl _, Nat.le_refl _⟩ (Nat.le_of_ble_eq_true rfl) dX12_painter_2 ?_
  refine X_if_ne (tgt := 10) dX12_painter_5 (by decide) (fun c3 => ?_) (fun c3 => ?_)
  · replace hm := iq c3 hm
    refine X_iload_n 2 dX12_painter_10 rfl rfl ?_
    rcases Decidable.em (a2 = (0 : Int32)) with c4 | c4
    · replace hm := ip c4 hm
      refine X_swK (off := 29) (tgt := 40) c4 dX12_painter_11 (by decide) (by decide) (by decide) (by decide) ?_
      refine X_aload_n 0 dX12_painter_40 rfl rfl rfl ?_
      refine X_getPe fl_X12_19 (g_K123 G) rfl (g_P123_4 G) dX12_painter_41 ?_
      refine X_iload_n 1 dX12_painter_44 rfl rfl ?_
      obtain ⟨g5, hm⟩ := og hm
      refine X_ialdJ (g_K127 G) g5 rfl dX12_painter_45 ?_
      replace hm := Option.some.inj hm
      subst hm
      exact X_iret dX12_painter_46 rfl
    · replace hm := iq c4 hm
      rcases Decidable.em (a2 = (1 : Int32)) with c6 | c6
      · replace hm := ip c6 hm
        refine X_swK (off := 36) (tgt := 47) c6 dX12_painter_11 (by decide) (by decide) (by decide) (by decide) ?_
        refine X_aload_n 0 dX12_painter_47 rfl rfl rfl ?_
        refine X_getPe fl_X12_22 (g_K123 G) rfl (g_P123_5 G) dX12_painter_48 ?_
        refine X_iload_n 1 dX12_painter_51 rfl rfl ?_
        obtain ⟨g7, hm⟩ := og hm
        refine X_ialdJ (g_K128 G) g7 rfl dX12_painter_52 ?_
        replace hm := Option.some.inj hm
        subst hm
        exact X_iret dX12_painter_53 rfl
      · replace hm := iq c6 hm
        rcases Decidable.em (a2 = (2 : Int32)) with c8 | c8
        · replace hm := ip c8 hm
          refine X_swK (off := 43) (tgt := 54) c8 dX12_painter_11 (by decide) (by decide) (by decide) (by decide) ?_
          refine X_aload_n 0 dX12_painter_54 rfl rfl rfl ?_
          refine X_iload_n 1 dX12_painter_55 rfl rfl ?_
          obtain ⟨q9, e10, hm⟩ := ob hm
          refine X_cV1 (ci := 11) (kX12_cellsOwned d (by omega) G e10) ml_X12_426 mi_X12_cellsOwned rfl cf_11 (g_K123 G) rfl rfl (Nat.le_refl _) ⟨Nat.le_refl _, Nat.le_refl _⟩ (Nat.le_of_ble_eq_true rfl) dX12_painter_56 ?_
          replace hm := Option.some.inj hm
          subst hm
          exact X_iret dX12_painter_59 rfl
        · replace hm := iq c8 hm
          rcases Decidable.em (a2 = (3 : Int32)) with c11 | c11
          · replace hm := ip c11 hm
            refine X_swK (off := 49) (tgt := 60) c11 dX12_painter_11 (by decide) (by decide) (by decide) (by decide) ?_
            refine X_iconst (v := (0 : Int32)) dX12_painter_60 (by decide) ?_
            refine X_istore_n (lv' := [(3, .int (0 : Int32)), (0, .ref 123), (1, .int a1), (2, .int a2)]) dX12_painter_61 rfl (by decide) rfl ?_
            refine X_iconst (v := (0 : Int32)) dX12_painter_62 (by decide) ?_
            refine X_istore (lv' := [(4, .int (0 : Int32)), (3, .int (0 : Int32)), (0, .ref 123), (1, .int a1), (2, .int a2)]) dX12_painter_63 (by decide) rfl ?_
            refine X_lv [2, 3, 1, 0] rfl (kX12_painter_65 _ hd G xf _ _ _ _  hm)
          · replace hm := iq c11 hm
            refine X_tableOut (tgt := 105) dX12_painter_11 (sw_out 4 (by decide) (fun i hi => by
              have hi2 : i = 0 ∨ i = 1 ∨ i = 2 ∨ i = 3 := by omega
              rcases hi2 with rfl | rfl | rfl | rfl
              · exact c4
              · exact c6
              · exact c8
              · exact c11)) (by decide) ?_
            refine X_iconst (v := (-1 : Int32)) dX12_painter_105 (by decide) ?_
            replace hm := Option.some.inj hm
            subst hm
            exact X_iret dX12_painter_106 rfl
  · replace hm := ip c3 hm
    refine X_iconst (v := (-1 : Int32)) dX12_painter_8 (by decide) ?_
    replace hm := Option.some.inj hm
    subst hm
    exact X_iret dX12_painter_9 rfl
def mX12_rains_2 (I : Nat → Nat → Int32)  : Nat → Int32 → Int32 → Option (Int32)
  | 0, _, _ => none
  | f + 1, a1, a2 => (if (I 124 7) ≤ a2 then (some (0 : Int32)) else (if inb a2 5 = true then (if inb a2 5 = true then (Option.bind (mX12_in a1.toInt64 (I 129 (ix a2)).toInt64 (I 130 (ix a2)).toInt64) (fun q4 => (if q4 = 0 then (mX12_rains_2 I f a1 (a2 + 1)) else (some (1 : Int32))))) else none) else none))
set_option maxHeartbeats 400000 in
set_option maxRecDepth 100000 in
theorem kX12_rains_2 {E : xE} {B : Nat} {n : Nat} {K : Nat → Nat × Nat} {P : Nat → Nat → Nat} {I : Nat → Nat → Int32} {L : Nat → Nat → Int64}   {q : Int32} (d : Nat) (hd : 1 ≤ d) (G : GW K P)   : ∀ (f : Nat) (a1 : Int32) (a2 : Int32), mX12_rains_2 I f a1 a2 = some q → X E B d 0 0 yX12_rains cX12_rains 3 (some .boolean) (some (.int q), (n, K, P, I, L)) 2 [(0, .ref 123), (1, .int a1), (2, .int a2)] [] 0 0 (n, K, P, I, L) := by
  obtain ⟨d, rfl⟩ : ∃ d0, d = d0 + 1 := ⟨d - 1, by omega⟩
  intro f
  induction f with
  | zero => intro _ _ hm; exact nomatch (show (none : Option (Int32)) = some q from hm)
  | succ f ih =>
    intro a1 a2 hm
    rw [mX12_rains_2] at hm
    refine X_iload_n 2 dX12_rains_2 rfl rfl ?_
    refine X_aload_n 0 dX12_rains_3 rfl rfl rfl ?_
    refine X_getPe fl_X12_9 (g_K123 G) rfl (g_P123_1 G) dX12_rains_4 ?_
    refine X_bipush (v := (7 : Int32)) dX12_rains_7 (by decide) ?_
    refine X_ialdJ (j := 7) (g_K124 G) rfl (by decide) dX12_rains_9 ?_
    refine X_icmp_ge (tgt := 43) dX12_rains_10 (by decide) (fun c1 => ?_) (fun c1 => ?_)
    · replace hm := ip c1 hm
      refine X_iconst (v := (0 : Int32)) dX12_rains_43 (by decide) ?_
      replace hm := Option.some.inj hm
      subst hm
      exact X_zret (v := (0 : Int32)) dX12_rains_44 rfl (x_nz (Or.inl rfl))
    · replace hm := iq c1 hm
      refine X_iload_n 1 dX12_rains_13 rfl rfl ?_
      refine X_i2l dX12_rains_14 ?_
      refine X_aload_n 0 dX12_rains_15 rfl rfl rfl ?_
      refine X_getPe fl_X12_25 (g_K123 G) rfl (g_P123_6 G) dX12_rains_16 ?_
      refine X_iload_n 2 dX12_rains_19 rfl rfl ?_
      obtain ⟨g2, hm⟩ := og hm
      refine X_ialdJ (g_K129 G) g2 rfl dX12_rains_20 ?_
      refine X_i2l dX12_rains_21 ?_
      refine X_aload_n 0 dX12_rains_22 rfl rfl rfl ?_
      refine X_getPe fl_X12_28 (g_K123 G) rfl (g_P123_7 G) dX12_rains_23 ?_
      refine X_iload_n 2 dX12_rains_26 rfl rfl ?_
      obtain ⟨g3, hm⟩ := og hm
      refine X_ialdJ (g_K130 G) g3 rfl dX12_rains_27 ?_
      refine X_i2l dX12_rains_28 ?_
      obtain ⟨q4, e5, hm⟩ := ob hm
      refine X_cS1 (kX12_in d (by omega) G e5) ml_X12_164 ms_X12_in rfl rfl (Nat.le_refl _) ⟨Nat.le_refl _, Nat.le_refl _⟩ (Nat.le_of_ble_eq_true rfl) dX12_rains_29 ?_
      refine X_if_eq (tgt := 37) dX12_rains_32 (by decide) (fun c6 => ?_) (fun c6 => ?_)
      · replace hm := ip c6 hm
        refine X_iinc (lv' := [(2, .int (a2 + 1)), (0, .ref 123), (1, .int a1)]) 2 dX12_rains_37 rfl rfl (by decide) rfl ?_
        refine X_goto (tgt := 2) dX12_rains_40 (by decide) ?_
        exact X_lv [1, 2, 0] rfl (ih _ _ hm)
      · replace hm := iq c6 hm
        refine X_iconst (v := (1 : Int32)) dX12_rains_35 (by decide) ?_
        replace hm := Option.some.inj hm
        subst hm
        exact X_zret (v := (1 : Int32)) dX12_rains_36 rfl (x_nz (Or.inr rfl))
def mX12_rains (I : Nat → Nat → Int32) (a1 : Int32) : Option (Int32) := (mX12_rains_2 I xf a1 (0 : Int32))
set_option maxHeartbeats 400000 in
set_option maxRecDepth 100000 in
theorem kX12_rains {E : xE} {B : Nat} {n : Nat} {K : Nat → Nat × Nat} {P : Nat → Nat → Nat} {I : Nat → Nat → Int32} {L : Nat → Nat → Int64}  {a1 : Int32} {q : Int32} (d : Nat) (hd : 1 ≤ d) (G : GW K P)   (hm : mX12_rains I a1 = some q) : MX E B d 0 0 yX12_rains cX12_rains 3 (some .boolean) [.ref 123, .int a1] (n, K, P, I, L) (some (.int q), (n, K, P, I, L)) := by
  refine MX_of (lv := [(0, .ref 123), (1, .int a1)]) (by decide +kernel) (Nat.le_of_ble_eq_true rfl) rfl ?_
  obtain ⟨d, rfl⟩ : ∃ d0, d = d0 + 1 := ⟨d - 1, by omega⟩
  unfold mX12_rains at hm
  refine X_iconst (v := (0 : Int32)) dX12_rains_0 (by decide) ?_
  refine X_istore_n (lv' := [(2, .int (0 : Int32)), (0, .ref 123), (1, .int a1)]) dX12_rains_1 rfl (by decide) rfl ?_
  refine X_lv [1, 2, 0] rfl (kX12_rains_2 _ hd G xf _ _  hm)
def mX12_rain (I : Nat → Nat → Int32) (a1 : Int32) : Option (Int32) := (Option.bind (mX12_isStreet I) (fun q1 => (if q1 = 0 then (some (-1 : Int32)) else (if 0 ≤ a1 then (Option.bind (mX12_rains I a1) (fun q5 => (if q5 = 0 then (some (0 : Int32)) else (some (1 : Int32))))) else (some (-1 : Int32))))))
set_option maxHeartbeats 400000 in
set_option maxRecDepth 100000 in
theorem kX12_rain {E : xE} {B : Nat} {n : Nat} {K : Nat → Nat × Nat} {P : Nat → Nat → Nat} {I : Nat → Nat → Int32} {L : Nat → Nat → Int64}  {a1 : Int32} {q : Int32} (d : Nat) (hd : 2 ≤ d) (G : GW K P)   (hm : mX12_rain I a1 = some q) : MX E B d 0 0 yX12_rain cX12_rain 2 (some .int) [.ref 123, .int a1] (n, K, P, I, L) (some (.int q), (n, K, P, I, L)) := by
  refine MX_of (lv := [(0, .ref 123), (1, .int a1)]) (by decide +kernel) (Nat.le_of_ble_eq_true rfl) rfl ?_
  obtain ⟨d, rfl⟩ : ∃ d0, d = d0 + 1 := ⟨d - 1, by omega⟩
  unfold mX12_rain at hm
  refine X_aload_n 0 dX12_rain_0 rfl rfl rfl ?_
  obtain ⟨q1, e2, hm⟩ := ob hm
  refine X_cV1 (ci := 11) (kX12_isStreet d (by omega) G e2) ml_X12_429 mi_X12_isStreet rfl cf_11 (g_K123 G) rfl rfl (Nat.le_refl _) ⟨Nat.le_refl _, Nat.le_refl _⟩ (Nat.le_of_ble_eq_true rfl) dX12_rain_1 ?_
  refine X_if_eq (tgt := 11) dX12_rain_4 (by decide) (fun c3 => ?_) (fun c3 => ?_)
  · replace hm := ip c3 hm
    refine X_iconst (v := (-1 : Int32)) dX12_rain_11 (by decide) ?_
    replace hm := Option.some.inj hm
    subst hm
    exact X_iret dX12_rain_12 rfl
  · replace hm := iq c3 hm
    refine X_iload_n 1 dX12_rain_7 rfl rfl ?_
    refine X_if_ge (tgt := 13) dX12_rain_8 (by decide) (fun c4 => ?_) (fun c4 => ?_)
    · replace hm := ip c4 hm
      refine X_aload_n 0 dX12_rain_13 rfl rfl rfl ?_
      refine X_iload_n 1 dX12_rain_14 rfl rfl ?_
      obtain ⟨q5, e6, hm⟩ := ob hm
      refine X_cV1 (ci := 11) (kX12_rains d (by omega) G e6) ml_X12_432 mi_X12_rains rfl cf_11 (g_K123 G) rfl rfl (Nat.le_refl _) ⟨Nat.le_refl _, Nat.le_refl _⟩ (Nat.le_of_ble_eq_true rfl) dX12_rain_15 ?_
      refine X_if_eq (tgt := 25) dX12_rain_18 (by decide) (fun c7 => ?_) (fun c7 => ?_)
      · replace hm := ip c7 hm
        refine X_iconst (v := (0 : Int32)) dX12_rain_25 (by decide) ?_
        replace hm := Option.some.inj hm
        subst hm
        exact X_iret dX12_rain_26 rfl
      · replace hm := iq c7 hm
        refine X_iconst (v := (1 : Int32)) dX12_rain_21 (by decide) ?_
        refine X_goto (tgt := 26) dX12_rain_22 (by decide) ?_
        replace hm := Option.some.inj hm
        subst hm
        exact X_iret dX12_rain_26 rfl
    · replace hm := iq c4 hm
      refine X_iconst (v := (-1 : Int32)) dX12_rain_11 (by decide) ?_
      replace hm := Option.some.inj hm
      subst hm
      exact X_iret dX12_rain_12 rfl
def mX12_paints_69  (I : Nat → Nat → Int32) (a1 : Int32) (a2 : Int32) : Option ((Nat → Nat → Int32)) := (if inb a1 16 = true then (if inb (((5 : Int32) * a1) + (I 131 (ix a1))) 80 = true then (if inb a1 16 = true then (if inb (((5 : Int32) * a1) + ((xu I 132 (ix (((5 : Int32) * a1) + (I 131 (ix a1)))) a2) 131 (ix a1))) 80 = true then (if inb a1 16 = true then (if inb a1 16 = true then (some (xu (xu (xu I 132 (ix (((5 : Int32) * a1) + (I 131 (ix a1)))) a2) 133 (ix (((5 : Int32) * a1) + ((xu I 132 (ix (((5 : Int32) * a1) + (I 131 (ix a1)))) a2) 131 (ix a1)))) ((xu I 132 (ix (((5 : Int32) * a1) + (I 131 (ix a1)))) a2) 124 9)) 131 (ix a1) (((xu (xu I 132 (ix (((5 : Int32) * a1) + (I 131 (ix a1)))) a2) 133 (ix (((5 : Int32) * a1) + ((xu I 132 (ix (((5 : Int32) * a1) + (I 131 (ix a1)))) a2) 131 (ix a1)))) ((xu I 132 (ix (((5 : Int32) * a1) + (I 131 (ix a1)))) a2) 124 9)) 131 (ix a1)) + (1 : Int32)))) else none) else none) else none) else none) else none) else none)
set_option maxHeartbeats 400000 in
set_option maxRecDepth 100000 in
theorem kX12_paints_69 {E : xE} {B : Nat} {n : Nat} {K : Nat → Nat × Nat} {P : Nat → Nat → Nat} {I : Nat → Nat → Int32} {L : Nat → Nat → Int64}   {a1 : Int32} {a2 : Int32} {q : (Nat → Nat → Int32)} (d : Nat) (hd : 0 ≤ d) (G : GW K P)    (hm : mX12_paints_69 I a1 a2 = some q) : X E B d 0 0 yX12_paints cX12_paints 4 (none : Option Jvm.ClassFile.FieldType) (none, (n, K, P, q, L)) 69 [(0, .ref 123), (1, .int a1), (2, .int a2)] [] 0 0 (n, K, P, I, L) := by
  unfold mX12_paints_69 at hm
  refine X_aload_n 0 dX12_paints_69 rfl rfl rfl ?_
  refine X_getPe fl_X12_34 (g_K123 G) rfl (g_P123_9 G) dX12_paints_70 ?_
  refine X_iconst (v := (5 : Int32)) dX12_paints_73 (by decide) ?_
  refine X_iload_n 1 dX12_paints_74 rfl rfl ?_
  refine X_imul dX12_paints_75 ?_
  refine X_aload_n 0 dX12_paints_76 rfl rfl rfl ?_
  refine X_getPe fl_X12_31 (g_K123 G) rfl (g_P123_8 G) dX12_paints_77 ?_
  refine X_iload_n 1 dX12_paints_80 rfl rfl ?_
  obtain ⟨g3, hm⟩ := og hm
  refine X_ialdJ (g_K131 G) g3 rfl dX12_paints_81 ?_
  refine X_iadd dX12_paints_82 ?_
  refine X_iload_n 2 dX12_paints_83 rfl rfl ?_
  obtain ⟨g4, hm⟩ := og hm
  refine X_iastJ (g_K132 G) g4 rfl dX12_paints_84 ?_
  refine X_aload_n 0 dX12_paints_85 rfl rfl rfl ?_
  refine X_getPe fl_X12_37 (g_K123 G) rfl (g_P123_10 G) dX12_paints_86 ?_
  refine X_iconst (v := (5 : Int32)) dX12_paints_89 (by decide) ?_
  refine X_iload_n 1 dX12_paints_90 rfl rfl ?_
  refine X_imul dX12_paints_91 ?_
  refine X_aload_n 0 dX12_paints_92 rfl rfl rfl ?_
  refine X_getPe fl_X12_31 (g_K123 G) rfl (g_P123_8 G) dX12_paints_93 ?_
  refine X_iload_n 1 dX12_paints_96 rfl rfl ?_
  obtain ⟨g5, hm⟩ := og hm
  refine X_ialdJ (g_K131 G) g5 rfl dX12_paints_97 ?_
  refine X_iadd dX12_paints_98 ?_
  refine X_aload_n 0 dX12_paints_99 rfl rfl rfl ?_
  refine X_getPe fl_X12_9 (g_K123 G) rfl (g_P123_1 G) dX12_paints_100 ?_
  refine X_bipush (v := (9 : Int32)) dX12_paints_103 (by decide) ?_
  refine X_ialdJ (j := 9) (g_K124 G) rfl (by decide) dX12_paints_105 ?_
  obtain ⟨g6, hm⟩ := og hm
  refine X_iastJ (g_K133 G) g6 rfl dX12_paints_106 ?_
  refine X_aload_n 0 dX12_paints_107 rfl rfl rfl ?_
  refine X_getPe fl_X12_31 (g_K123 G) rfl (g_P123_8 G) dX12_paints_108 ?_
  refine X_iload_n 1 dX12_paints_111 rfl rfl ?_
  refine X_dup2 dX12_paints_112 rfl rfl ?_
  obtain ⟨g7, hm⟩ := og hm
  refine X_ialdJ (g_K131 G) g7 rfl dX12_paints_113 ?_
  refine X_iconst (v := (1 : Int32)) dX12_paints_114 (by decide) ?_
  refine X_iadd dX12_paints_115 ?_
  obtain ⟨g8, hm⟩ := og hm
  refine X_iastJ (g_K131 G) g8 rfl dX12_paints_116 ?_
  replace hm := Option.some.inj hm
  subst hm
  exact X_vret dX12_paints_117 rfl
def mX12_paints_16  (e59 : (Nat → Nat → Int32) → Int32 → Int32 → Option ((Nat → Nat → Int32))) : Nat → (Nat → Nat → Int32) → Int32 → Int32 → Int32 → Option ((Nat → Nat → Int32))
  | 0, _, _, _, _ => none
  | f + 1, I, a1, a2, a3 => (if (((5 : Int32) * a1) + (5 : Int32)) ≤ a3 then (e59 I a1 a2) else (if inb a3 80 = true then (if inb (a3 - (1 : Int32)) 80 = true then (if inb a3 80 = true then (if inb (a3 - (1 : Int32)) 80 = true then (mX12_paints_16 e59 f (xu (xu I 132 (ix (a3 - (1 : Int32))) (I 132 (ix a3))) 133 (ix (a3 - (1 : Int32))) ((xu I 132 (ix (a3 - (1 : Int32))) (I 132 (ix a3))) 133 (ix a3))) a1 a2 (a3 + 1)) else none) else none) else none) else none))
set_option maxHeartbeats 400000 in
set_option maxRecDepth 100000 in
theorem kX12_paints_16 {E : xE} {B : Nat} {n : Nat} {K : Nat → Nat × Nat} {P : Nat → Nat → Nat} {L : Nat → Nat → Int64}  {e59 : (Nat → Nat → Int32) → Int32 → Int32 → Option ((Nat → Nat → Int32))} {q : (Nat → Nat → Int32)} (d : Nat) (hd : 0 ≤ d) (G : GW K P)  (he59 : ∀ (I : Nat → Nat → Int32) (a1 : Int32) (a2 : Int32), e59 I a1 a2 = some q → X E B d 0 0 yX12_paints cX12_paints 4 (none : Option Jvm.ClassFile.FieldType) (none, (n, K, P, q, L)) 59 [(0, .ref 123), (1, .int a1), (2, .int a2)] [] 0 0 (n, K, P, I, L)) : ∀ (f : Nat) (I : Nat → Nat → Int32) (a1 : Int32) (a2 : Int32) (a3 : Int32), mX12_paints_16 e59 f I a1 a2 a3 = some q → X E B d 0 0 yX12_paints cX12_paints 4 (none : Option Jvm.ClassFile.FieldType) (none, (n, K, P, q, L)) 16 [(0, .ref 123), (1, .int a1), (2, .int a2), (3, .int a3)] [] 0 0 (n, K, P, I, L) := by
  intro f
  induction f with
  | zero => intro _ _ _ _ hm; exact nomatch (show (none : Option ((Nat → Nat → Int32))) = some q from hm)
  | succ f ih =>
    intro I a1 a2 a3 hm
    rw [mX12_paints_16] at hm
    refine X_iload_n 3 dX12_paints_16 rfl rfl ?_
    refine X_iconst (v := (5 : Int32)) dX12_paints_17 (by decide) ?_
    refine X_iload_n 1 dX12_paints_18 rfl rfl ?_
    refine X_imul dX12_paints_19 ?_
    refine X_iconst (v := (5 : Int32)) dX12_paints_20 (by decide) ?_
    refine X_iadd dX12_paints_21 ?_
    refine X_icmp_ge (tgt := 59) dX12_paints_22 (by decide) (fun c9 => ?_) (fun c9 => ?_)
    · replace hm := ip c9 hm
      exact X_lv [0, 1, 2] rfl (he59 _ _ _ hm)
    · replace hm := iq c9 hm
      refine X_aload_n 0 dX12_paints_25 rfl rfl rfl ?_
      refine X_getPe fl_X12_34 (g_K123 G) rfl (g_P123_9 G) dX12_paints_26 ?_
      refine X_iload_n 3 dX12_paints_29 rfl rfl ?_
      refine X_iconst (v := (1 : Int32)) dX12_paints_30 (by decide) ?_
      refine X_isub dX12_paints_31 ?_
      refine X_aload_n 0 dX12_paints_32 rfl rfl rfl ?_
      refine X_getPe fl_X12_34 (g_K123 G) rfl (g_P123_9 G) dX12_paints_33 ?_
      refine X_iload_n 3 dX12_paints_36 rfl rfl ?_
      obtain ⟨g10, hm⟩ := og hm
      refine X_ialdJ (g_K132 G) g10 rfl dX12_paints_37 ?_
      obtain ⟨g11, hm⟩ := og hm
      refine X_iastJ (g_K132 G) g11 rfl dX12_paints_38 ?_
      refine X_aload_n 0 dX12_paints_39 rfl rfl rfl ?_
      refine X_getPe fl_X12_37 (g_K123 G) rfl (g_P123_10 G) dX12_paints_40 ?_
      refine X_iload_n 3 dX12_paints_43 rfl rfl ?_
      refine X_iconst (v := (1 : Int32)) dX12_paints_44 (by decide) ?_
      refine X_isub dX12_paints_45 ?_
      refine X_aload_n 0 dX12_paints_46 rfl rfl rfl ?_
      refine X_getPe fl_X12_37 (g_K123 G) rfl (g_P123_10 G) dX12_paints_47 ?_
      refine X_iload_n 3 dX12_paints_50 rfl rfl ?_
      obtain ⟨g12, hm⟩ := og hm
      refine X_ialdJ (g_K133 G) g12 rfl dX12_paints_51 ?_
      obtain ⟨g13, hm⟩ := og hm
      refine X_iastJ (g_K133 G) g13 rfl dX12_paints_52 ?_
      refine X_iinc (lv' := [(3, .int (a3 + 1)), (0, .ref 123), (1, .int a1), (2, .int a2)]) 3 dX12_paints_53 rfl rfl (by decide) rfl ?_
      refine X_goto (tgt := 16) dX12_paints_56 (by decide) ?_
      exact X_lv [1, 2, 3, 0] rfl (ih _ _ _ _ hm)
def mX12_paints  (I : Nat → Nat → Int32) (a1 : Int32) (a2 : Int32) : Option ((Nat → Nat → Int32)) := (if inb a1 16 = true then (if (I 131 (ix a1)) = (5 : Int32) then (mX12_paints_16 (fun (I_14 : (Nat → Nat → Int32)) (a1_14 : Int32) (a2_14 : Int32) => (if inb a1_14 16 = true then (if inb a1_14 16 = true then (mX12_paints_69 (xu I_14 131 (ix a1_14) ((I_14 131 (ix a1_14)) - (1 : Int32))) a1_14 a2_14) else none) else none)) xf I a1 a2 (((5 : Int32) * a1) + (1 : Int32))) else (mX12_paints_69 I a1 a2)) else none)
set_option maxHeartbeats 400000 in
set_option maxRecDepth 100000 in
theorem kX12_paints {E : xE} {B : Nat} {n : Nat} {K : Nat → Nat × Nat} {P : Nat → Nat → Nat} {I : Nat → Nat → Int32} {L : Nat → Nat → Int64}  {a1 : Int32} {a2 : Int32} {q : (Nat → Nat → Int32)} (d : Nat) (hd : 0 ≤ d) (G : GW K P)   (hm : mX12_paints I a1 a2 = some q) : MX E B d 0 0 yX12_paints cX12_paints 4 (none : Option Jvm.ClassFile.FieldType) [.ref 123, .int a1, .int a2] (n, K, P, I, L) (none, (n, K, P, q, L)) := by
  refine MX_of (lv := [(0, .ref 123), (1, .int a1), (2, .int a2)]) (by decide +kernel) (Nat.le_of_ble_eq_true rfl) rfl ?_
  unfold mX12_paints at hm
  refine X_aload_n 0 dX12_paints_0 rfl rfl rfl ?_
  refine X_getPe fl_X12_31 (g_K123 G) rfl (g_P123_8 G) dX12_paints_1 ?_
  refine X_iload_n 1 dX12_paints_4 rfl rfl ?_
  obtain ⟨g1, hm⟩ := og hm
  refine X_ialdJ (g_K131 G) g1 rfl dX12_paints_5 ?_
  refine X_iconst (v := (5 : Int32)) dX12_paints_6 (by decide) ?_
  refine X_icmp_ne (tgt := 69) dX12_paints_7 (by decide) (fun c2 => ?_) (fun c2 => ?_)
  · replace hm := iq c2 hm
    exact kX12_paints_69 _ hd G hm
  · replace hm := ip c2 hm
    refine X_iconst (v := (5 : Int32)) dX12_paints_10 (by decide) ?_
    refine X_iload_n 1 dX12_paints_11 rfl rfl ?_
    refine X_imul dX12_paints_12 ?_
    refine X_iconst (v := (1 : Int32)) dX12_paints_13 (by decide) ?_
    refine X_iadd dX12_paints_14 ?_
    refine X_istore_n (lv' := [(3, .int (((5 : Int32) * a1) + (1 : Int32))), (0, .ref 123), (1, .int a1), (2, .int a2)]) dX12_paints_15 rfl (by decide) rfl ?_
    refine X_lv [1, 2, 3, 0] rfl (kX12_paints_16 _ hd G (fun I_14 a1_14 a2_14 hm => ?_) xf _ _ _ _  hm)
    refine X_aload_n 0 dX12_paints_59 rfl rfl rfl ?_
    refine X_getPe fl_X12_31 (g_K123 G) rfl (g_P123_8 G) dX12_paints_60 ?_
    refine X_iload_n 1 dX12_paints_63 rfl rfl ?_
    refine X_dup2 dX12_paints_64 rfl rfl ?_
    obtain ⟨g15, hm⟩ := og hm
    refine X_ialdJ (g_K131 G) g15 rfl dX12_paints_65 ?_
    refine X_iconst (v := (1 : Int32)) dX12_paints_66 (by decide) ?_
    refine X_isub dX12_paints_67 ?_
    obtain ⟨g16, hm⟩ := og hm
    refine X_iastJ (g_K131 G) g16 rfl dX12_paints_68 ?_
    exact kX12_paints_69 _ hd G hm
def mX12_canPaint (I : Nat → Nat → Int32) (a1 : Int32) (a2 : Int32) : Option (Int32) := (Option.bind (mX12_thingOf I a1) (fun q1 => (Option.bind (mX12_isBare I q1) (fun q3 => (if q3 = 0 then (if inb a2 4 = true then (if (I 128 (ix a2)) < (I 124 2) then (some (0 : Int32)) else (some (1 : Int32))) else none) else (some (0 : Int32)))))))
set_option maxHeartbeats 400000 in
set_option maxRecDepth 100000 in
theorem kX12_canPaint {E : xE} {B : Nat} {n : Nat} {K : Nat → Nat × Nat} {P : Nat → Nat → Nat} {I : Nat → Nat → Int32} {L : Nat → Nat → Int64}  {a1 : Int32} {a2 : Int32} {q : Int32} (d : Nat) (hd : 2 ≤ d) (G : GW K P)   (hm : mX12_canPaint I a1 a2 = some q) : MX E B d 0 0 yX12_canPaint cX12_canPaint 3 (some .boolean) [.ref 123, .int a1, .int a2] (n, K, P, I, L) (some (.int q), (n, K, P, I, L)) := by
  refine MX_of (lv := [(0, .ref 123), (1, .int a1), (2, .int a2)]) (by decide +kernel) (Nat.le_of_ble_eq_true rfl) rfl ?_
  obtain ⟨d, rfl⟩ : ∃ d0, d = d0 + 1 := ⟨d - 1, by omega⟩
  unfold mX12_canPaint at hm
  refine X_aload_n 0 dX12_canPaint_0 rfl rfl rfl ?_
  refine X_aload_n 0 dX12_canPaint_1 rfl rfl rfl ?_
  refine X_iload_n 1 dX12_canPaint_2 rfl rfl ?_
  obtain ⟨q1, e2, hm⟩ := ob hm
  refine X_cV1 (ci := 11) (kX12_thingOf d (by omega) G e2) ml_X12_408 mi_X12_thingOf rfl cf_11 (g_K123 G) rfl rfl (Nat.le_refl _) ⟨Nat.le_refl _, Nat.le_refl _⟩ (Nat.le_of_ble_eq_true rfl) dX12_canPaint_3 ?_
  obtain ⟨q3, e4, hm⟩ := ob hm
  refine X_cV1 (ci := 11) (kX12_isBare d (by omega) G e4) ml_X12_336 mi_X12_isBare rfl cf_11 (g_K123 G) rfl rfl (Nat.le_refl _) ⟨Nat.le_refl _, Nat.le_refl _⟩ (Nat.le_of_ble_eq_true rfl) dX12_canPaint_6 ?_
  refine X_if_ne (tgt := 31) dX12_canPaint_9 (by decide) (fun c5 => ?_) (fun c5 => ?_)
  · replace hm := iq c5 hm
    refine X_iconst (v := (0 : Int32)) dX12_canPaint_31 (by decide) ?_
    replace hm := Option.some.inj hm
    subst hm
    exact X_zret (v := (0 : Int32)) dX12_canPaint_32 rfl (x_nz (Or.inl rfl))
  · replace hm := ip c5 hm
    refine X_aload_n 0 dX12_canPaint_12 rfl rfl rfl ?_
    refine X_getPe fl_X12_22 (g_K123 G) rfl (g_P123_5 G) dX12_canPaint_13 ?_
    refine X_iload_n 2 dX12_canPaint_16 rfl rfl ?_
    obtain ⟨g6, hm⟩ := og hm
    refine X_ialdJ (g_K128 G) g6 rfl dX12_canPaint_17 ?_
    refine X_aload_n 0 dX12_canPaint_18 rfl rfl rfl ?_
    refine X_getPe fl_X12_9 (g_K123 G) rfl (g_P123_1 G) dX12_canPaint_19 ?_
    refine X_iconst (v := (2 : Int32)) dX12_canPaint_22 (by decide) ?_
    refine X_ialdJ (j := 2) (g_K124 G) rfl (by decide) dX12_canPaint_23 ?_
    refine X_icmp_lt (tgt := 31) dX12_canPaint_24 (by decide) (fun c7 => ?_) (fun c7 => ?_)
    · replace hm := ip c7 hm
      refine X_iconst (v := (0 : Int32)) dX12_canPaint_31 (by decide) ?_
      replace hm := Option.some.inj hm
      subst hm
      exact X_zret (v := (0 : Int32)) dX12_canPaint_32 rfl (x_nz (Or.inl rfl))
    · replace hm := iq c7 hm
      refine X_iconst (v := (1 : Int32)) dX12_canPaint_27 (by decide) ?_
      refine X_goto (tgt := 32) dX12_canPaint_28 (by decide) ?_
      replace hm := Option.some.inj hm
      subst hm
      exact X_zret (v := (1 : Int32)) dX12_canPaint_32 rfl (x_nz (Or.inr rfl))
def mX12_asks_73  (I : Nat → Nat → Int32) (L : Nat → Nat → Int64) (a1 : Int32) (a2 : Int32) (a3 : Int32) (t0 : Int64) (t1 : Int32) : Option ((Nat → Nat → Int32) × (Nat → Nat → Int64)) := (if inb t1 13 = true then (Option.bind (mX12_ownerOf I a2) (fun q10 => (Option.bind (mX12_thingOwner I a3) (fun q12 => (Option.bind (mX12_countsCells q12.2 a3 (q12.2 124 9) (0 : Int32)) (fun q14 => (if inb a1 4 = true then (if inb a2 16 = true then (if inb a1 4 = true then (Option.bind (mX12_rains q14 (q14 124 9)) (fun q19 => (if q19 = 0 then (some (q14, (xu (xu (xu (xu (xu (xu (xu (xu L 158 (ix t1) t0) 158 6 q10.toInt64) 158 8 q12.1.toInt64) 158 7 (q14 160 (ix a1)).toInt64) 158 9 (q14 131 (ix a2)).toInt64) 158 10 (q14 128 (ix a1)).toInt64) 158 11 (q14 124 9).toInt64) 158 12 (0 : Int64)))) else (some (q14, (xu (xu (xu (xu (xu (xu (xu (xu L 158 (ix t1) t0) 158 6 q10.toInt64) 158 8 q12.1.toInt64) 158 7 (q14 160 (ix a1)).toInt64) 158 9 (q14 131 (ix a2)).toInt64) 158 10 (q14 128 (ix a1)).toInt64) 158 11 (q14 124 9).toInt64) 158 12 (1 : Int64))))))) else none) else none) else none))))))) else none)
set_option maxHeartbeats 400000 in
set_option maxRecDepth 100000 in
theorem kX12_asks_73 {E : xE} {B : Nat} {n : Nat} {K : Nat → Nat × Nat} {P : Nat → Nat → Nat} {I : Nat → Nat → Int32} {L : Nat → Nat → Int64}   {a1 : Int32} {a2 : Int32} {a3 : Int32} {t0 : Int64} {t1 : Int32} {q : (Nat → Nat → Int32) × (Nat → Nat → Int64)} (d : Nat) (hd : 4 ≤ d) (G : GW K P)    (hm : mX12_asks_73 I L a1 a2 a3 t0 t1 = some q) : X E B d 0 0 yX12_asks cX12_asks 4 (none : Option Jvm.ClassFile.FieldType) (none, (n, K, P, q.1, q.2)) 73 [(0, .ref 123), (1, .int a1), (2, .int a2), (3, .int a3)] [.long t0, .int t1, .ref 158] 0 0 (n, K, P, I, L) := by
  obtain ⟨d, rfl⟩ : ∃ d0, d = d0 + 1 := ⟨d - 1, by omega⟩
  unfold mX12_asks_73 at hm
  obtain ⟨g9, hm⟩ := og hm
  refine X_lastJ (g_K158 G) g9 rfl dX12_asks_73 ?_
  refine X_aload_n 0 dX12_asks_74 rfl rfl rfl ?_
  refine X_getPe fl_X12_117 (g_K123 G) rfl (g_P123_45 G) dX12_asks_75 ?_
  refine X_bipush (v := (6 : Int32)) dX12_asks_78 (by decide) ?_
  refine X_aload_n 0 dX12_asks_80 rfl rfl rfl ?_
  refine X_iload_n 2 dX12_asks_81 rfl rfl ?_
  obtain ⟨q10, e11, hm⟩ := ob hm
  refine X_cV1 (ci := 11) (kX12_ownerOf d (by omega) G e11) ml_X12_402 mi_X12_ownerOf rfl cf_11 (g_K123 G) rfl rfl (Nat.le_refl _) ⟨Nat.le_refl _, Nat.le_refl _⟩ (Nat.le_of_ble_eq_true rfl) dX12_asks_82 ?_
  refine X_i2l dX12_asks_85 ?_
  refine X_lastJ (j := 6) (g_K158 G) rfl (by decide) dX12_asks_86 ?_
  refine X_aload_n 0 dX12_asks_87 rfl rfl rfl ?_
  refine X_getPe fl_X12_117 (g_K123 G) rfl (g_P123_45 G) dX12_asks_88 ?_
  refine X_bipush (v := (8 : Int32)) dX12_asks_91 (by decide) ?_
  refine X_aload_n 0 dX12_asks_93 rfl rfl rfl ?_
  refine X_iload_n 3 dX12_asks_94 rfl rfl ?_
  obtain ⟨q12, e13, hm⟩ := ob hm
  refine X_cV1 (ci := 11) (kX12_thingOwner d (by omega) G e13) ml_X12_420 mi_X12_thingOwner rfl cf_11 (g_K123 G) rfl rfl (Nat.le_refl _) ⟨Nat.le_refl _, Nat.le_refl _⟩ (Nat.le_of_ble_eq_true rfl) dX12_asks_95 ?_
  refine X_i2l dX12_asks_98 ?_
  refine X_lastJ (j := 8) (g_K158 G) rfl (by decide) dX12_asks_99 ?_
  refine X_aload_n 0 dX12_asks_100 rfl rfl rfl ?_
  refine X_iload_n 3 dX12_asks_101 rfl rfl ?_
  refine X_aload_n 0 dX12_asks_102 rfl rfl rfl ?_
  refine X_getPe fl_X12_9 (g_K123 G) rfl (g_P123_1 G) dX12_asks_103 ?_
  refine X_bipush (v := (9 : Int32)) dX12_asks_106 (by decide) ?_
  refine X_ialdJ (j := 9) (g_K124 G) rfl (by decide) dX12_asks_108 ?_
  refine X_iconst (v := (0 : Int32)) dX12_asks_109 (by decide) ?_
  obtain ⟨q14, e15, hm⟩ := ob hm
  refine X_cV0 (ci := 11) (kX12_countsCells d (by omega) G e15) ml_X12_392 mi_X12_countsCells rfl cf_11 (g_K123 G) rfl rfl (Nat.le_refl _) ⟨Nat.le_refl _, Nat.le_refl _⟩ (Nat.le_of_ble_eq_true rfl) dX12_asks_110 ?_
  refine X_aload_n 0 dX12_asks_113 rfl rfl rfl ?_
  refine X_getPe fl_X12_117 (g_K123 G) rfl (g_P123_45 G) dX12_asks_114 ?_
  refine X_bipush (v := (7 : Int32)) dX12_asks_117 (by decide) ?_
  refine X_aload_n 0 dX12_asks_119 rfl rfl rfl ?_
  refine X_getPe fl_X12_124 (g_K123 G) rfl (g_P123_47 G) dX12_asks_120 ?_
  refine X_iload_n 1 dX12_asks_123 rfl rfl ?_
  obtain ⟨g16, hm⟩ := og hm
  refine X_ialdJ (g_K160 G) g16 rfl dX12_asks_124 ?_
  refine X_i2l dX12_asks_125 ?_
  refine X_lastJ (j := 7) (g_K158 G) rfl (by decide) dX12_asks_126 ?_
  refine X_aload_n 0 dX12_asks_127 rfl rfl rfl ?_
  refine X_getPe fl_X12_117 (g_K123 G) rfl (g_P123_45 G) dX12_asks_128 ?_
  refine X_bipush (v := (9 : Int32)) dX12_asks_131 (by decide) ?_
  refine X_aload_n 0 dX12_asks_133 rfl rfl rfl ?_
  refine X_getPe fl_X12_31 (g_K123 G) rfl (g_P123_8 G) dX12_asks_134 ?_
  refine X_iload_n 2 dX12_asks_137 rfl rfl ?_
  obtain ⟨g17, hm⟩ := og hm
  refine X_ialdJ (g_K131 G) g17 rfl dX12_asks_138 ?_
  refine X_i2l dX12_asks_139 ?_
  refine X_lastJ (j := 9) (g_K158 G) rfl (by decide) dX12_asks_140 ?_
  refine X_aload_n 0 dX12_asks_141 rfl rfl rfl ?_
  refine X_getPe fl_X12_117 (g_K123 G) rfl (g_P123_45 G) dX12_asks_142 ?_
  refine X_bipush (v := (10 : Int32)) dX12_asks_145 (by decide) ?_
  refine X_aload_n 0 dX12_asks_147 rfl rfl rfl ?_
  refine X_getPe fl_X12_22 (g_K123 G) rfl (g_P123_5 G) dX12_asks_148 ?_
  refine X_iload_n 1 dX12_asks_151 rfl rfl ?_
  obtain ⟨g18, hm⟩ := og hm
  refine X_ialdJ (g_K128 G) g18 rfl dX12_asks_152 ?_
  refine X_i2l dX12_asks_153 ?_
  refine X_lastJ (j := 10) (g_K158 G) rfl (by decide) dX12_asks_154 ?_
  refine X_aload_n 0 dX12_asks_155 rfl rfl rfl ?_
  refine X_getPe fl_X12_117 (g_K123 G) rfl (g_P123_45 G) dX12_asks_156 ?_
  refine X_bipush (v := (11 : Int32)) dX12_asks_159 (by decide) ?_
  refine X_aload_n 0 dX12_asks_161 rfl rfl rfl ?_
  refine X_getPe fl_X12_9 (g_K123 G) rfl (g_P123_1 G) dX12_asks_162 ?_
  refine X_bipush (v := (9 : Int32)) dX12_asks_165 (by decide) ?_
  refine X_ialdJ (j := 9) (g_K124 G) rfl (by decide) dX12_asks_167 ?_
  refine X_i2l dX12_asks_168 ?_
  refine X_lastJ (j := 11) (g_K158 G) rfl (by decide) dX12_asks_169 ?_
  refine X_aload_n 0 dX12_asks_170 rfl rfl rfl ?_
  refine X_getPe fl_X12_117 (g_K123 G) rfl (g_P123_45 G) dX12_asks_171 ?_
  refine X_bipush (v := (12 : Int32)) dX12_asks_174 (by decide) ?_
  refine X_aload_n 0 dX12_asks_176 rfl rfl rfl ?_
  refine X_aload_n 0 dX12_asks_177 rfl rfl rfl ?_
  refine X_getPe fl_X12_9 (g_K123 G) rfl (g_P123_1 G) dX12_asks_178 ?_
  refine X_bipush (v := (9 : Int32)) dX12_asks_181 (by decide) ?_
  refine X_ialdJ (j := 9) (g_K124 G) rfl (by decide) dX12_asks_183 ?_
  obtain ⟨q19, e20, hm⟩ := ob hm
  refine X_cV1 (ci := 11) (kX12_rains d (by omega) G e20) ml_X12_432 mi_X12_rains rfl cf_11 (g_K123 G) rfl rfl (Nat.le_refl _) ⟨Nat.le_refl _, Nat.le_refl _⟩ (Nat.le_of_ble_eq_true rfl) dX12_asks_184 ?_
  refine X_if_eq (tgt := 194) dX12_asks_187 (by decide) (fun c21 => ?_) (fun c21 => ?_)
  · replace hm := ip c21 hm
    refine X_lconst (v := (0 : Int64)) dX12_asks_194 (by decide) ?_
    refine X_lastJ (j := 12) (g_K158 G) rfl (by decide) dX12_asks_195 ?_
    replace hm := Option.some.inj hm
    subst hm
    exact X_vret dX12_asks_196 rfl
  · replace hm := iq c21 hm
    refine X_lconst (v := (1 : Int64)) dX12_asks_190 (by decide) ?_
    refine X_goto (tgt := 195) dX12_asks_191 (by decide) ?_
    refine X_lastJ (j := 12) (g_K158 G) rfl (by decide) dX12_asks_195 ?_
    replace hm := Option.some.inj hm
    subst hm
    exact X_vret dX12_asks_196 rfl
def mX12_asks  (I : Nat → Nat → Int32) (L : Nat → Nat → Int64) (a1 : Int32) (a2 : Int32) : Option ((Nat → Nat → Int32) × (Nat → Nat → Int64)) := (Option.bind (mX12_thingOf I a2) (fun q1 => (if inb q1 4 = true then (Option.bind (mX12_topOf I a2) (fun q4 => (Option.bind (mX12_isTopWet I a2) (fun q6 => (if q6 = 0 then (mX12_asks_73 I (xu (xu (xu (xu (xu L 158 0 a1.toInt64) 158 1 a2.toInt64) 158 2 q1.toInt64) 158 3 (I 126 (ix q1)).toInt64) 158 4 q4.toInt64) a1 a2 q1 (0 : Int64) (5 : Int32)) else (mX12_asks_73 I (xu (xu (xu (xu (xu L 158 0 a1.toInt64) 158 1 a2.toInt64) 158 2 q1.toInt64) 158 3 (I 126 (ix q1)).toInt64) 158 4 q4.toInt64) a1 a2 q1 (1 : Int64) (5 : Int32))))))) else none)))
set_option maxHeartbeats 400000 in
set_option maxRecDepth 100000 in
theorem kX12_asks {E : xE} {B : Nat} {n : Nat} {K : Nat → Nat × Nat} {P : Nat → Nat → Nat} {I : Nat → Nat → Int32} {L : Nat → Nat → Int64}  {a1 : Int32} {a2 : Int32} {q : (Nat → Nat → Int32) × (Nat → Nat → Int64)} (d : Nat) (hd : 4 ≤ d) (G : GW K P)   (hm : mX12_asks I L a1 a2 = some q) : MX E B d 0 0 yX12_asks cX12_asks 4 (none : Option Jvm.ClassFile.FieldType) [.ref 123, .int a1, .int a2] (n, K, P, I, L) (none, (n, K, P, q.1, q.2)) := by
  refine MX_of (lv := [(0, .ref 123), (1, .int a1), (2, .int a2)]) (by decide +kernel) (Nat.le_of_ble_eq_true rfl) rfl ?_
  obtain ⟨d, rfl⟩ : ∃ d0, d = d0 + 1 := ⟨d - 1, by omega⟩
  unfold mX12_asks at hm
  refine X_aload_n 0 dX12_asks_0 rfl rfl rfl ?_
  refine X_iload_n 2 dX12_asks_1 rfl rfl ?_
  obtain ⟨q1, e2, hm⟩ := ob hm
  refine X_cV1 (ci := 11) (kX12_thingOf d (by omega) G e2) ml_X12_408 mi_X12_thingOf rfl cf_11 (g_K123 G) rfl rfl (Nat.le_refl _) ⟨Nat.le_refl _, Nat.le_refl _⟩ (Nat.le_of_ble_eq_true rfl) dX12_asks_2 ?_
  refine X_istore_n (lv' := [(3, .int q1), (0, .ref 123), (1, .int a1), (2, .int a2)]) dX12_asks_5 rfl (by decide) rfl ?_
  refine X_aload_n 1 dX12_asks_6 rfl rfl rfl ?_
  refine X_getPe fl_X12_117 (g_K123 G) rfl (g_P123_45 G) dX12_asks_7 ?_
  refine X_iconst (v := (0 : Int32)) dX12_asks_10 (by decide) ?_
  refine X_iload_n 2 dX12_asks_11 rfl rfl ?_
  refine X_i2l dX12_asks_12 ?_
  refine X_lastJ (j := 0) (g_K158 G) rfl (by decide) dX12_asks_13 ?_
  refine X_aload_n 1 dX12_asks_14 rfl rfl rfl ?_
  refine X_getPe fl_X12_117 (g_K123 G) rfl (g_P123_45 G) dX12_asks_15 ?_
  refine X_iconst (v := (1 : Int32)) dX12_asks_18 (by decide) ?_
  refine X_iload_n 3 dX12_asks_19 rfl rfl ?_
  refine X_i2l dX12_asks_20 ?_
  refine X_lastJ (j := 1) (g_K158 G) rfl (by decide) dX12_asks_21 ?_
  refine X_aload_n 1 dX12_asks_22 rfl rfl rfl ?_
  refine X_getPe fl_X12_117 (g_K123 G) rfl (g_P123_45 G) dX12_asks_23 ?_
  refine X_iconst (v := (2 : Int32)) dX12_asks_26 (by decide) ?_
  refine X_iload_n 0 dX12_asks_27 rfl rfl ?_
  refine X_i2l dX12_asks_28 ?_
  refine X_lastJ (j := 2) (g_K158 G) rfl (by decide) dX12_asks_29 ?_
  refine X_aload_n 1 dX12_asks_30 rfl rfl rfl ?_
  refine X_getPe fl_X12_117 (g_K123 G) rfl (g_P123_45 G) dX12_asks_31 ?_
  refine X_iconst (v := (3 : Int32)) dX12_asks_34 (by decide) ?_
  refine X_aload_n 1 dX12_asks_35 rfl rfl rfl ?_
  refine X_getPe fl_X12_16 (g_K123 G) rfl (g_P123_3 G) dX12_asks_36 ?_
  refine X_iload_n 0 dX12_asks_39 rfl rfl ?_
  obtain ⟨g3, hm⟩ := og hm
  refine X_ialdJ (g_K126 G) g3 rfl dX12_asks_40 ?_
  refine X_i2l dX12_asks_41 ?_
  refine X_lastJ (j := 3) (g_K158 G) rfl (by decide) dX12_asks_42 ?_
  refine X_aload_n 1 dX12_asks_43 rfl rfl rfl ?_
  refine X_getPe fl_X12_117 (g_K123 G) rfl (g_P123_45 G) dX12_asks_44 ?_
  refine X_iconst (v := (4 : Int32)) dX12_asks_47 (by decide) ?_
  refine X_aload_n 1 dX12_asks_48 rfl rfl rfl ?_
  refine X_iload_n 3 dX12_asks_49 rfl rfl ?_
  obtain ⟨q4, e5, hm⟩ := ob hm
  refine X_cV1 (ci := 11) (kX12_topOf d (by omega) G e5) ml_X12_411 mi_X12_topOf rfl cf_11 (g_K123 G) rfl rfl (Nat.le_refl _) ⟨Nat.le_refl _, Nat.le_refl _⟩ (Nat.le_of_ble_eq_true rfl) dX12_asks_50 ?_
  refine X_i2l dX12_asks_53 ?_
  refine X_lastJ (j := 4) (g_K158 G) rfl (by decide) dX12_asks_54 ?_
  refine X_aload_n 1 dX12_asks_55 rfl rfl rfl ?_
  refine X_getPe fl_X12_117 (g_K123 G) rfl (g_P123_45 G) dX12_asks_56 ?_
  refine X_iconst (v := (5 : Int32)) dX12_asks_59 (by decide) ?_
  refine X_aload_n 1 dX12_asks_60 rfl rfl rfl ?_
  refine X_iload_n 3 dX12_asks_61 rfl rfl ?_
  obtain ⟨q6, e7, hm⟩ := ob hm
  refine X_cV1 (ci := 11) (kX12_isTopWet d (by omega) G e7) ml_X12_414 mi_X12_isTopWet rfl cf_11 (g_K123 G) rfl rfl (Nat.le_refl _) ⟨Nat.le_refl _, Nat.le_refl _⟩ (Nat.le_of_ble_eq_true rfl) dX12_asks_62 ?_
  refine X_if_eq (tgt := 72) dX12_asks_65 (by decide) (fun c8 => ?_) (fun c8 => ?_)
  · replace hm := ip c8 hm
    refine X_lconst (v := (0 : Int64)) dX12_asks_72 (by decide) ?_
    exact X_lv [1, 2, 3, 0] rfl (kX12_asks_73 _ hd G hm)
  · replace hm := iq c8 hm
    refine X_lconst (v := (1 : Int64)) dX12_asks_68 (by decide) ?_
    refine X_goto (tgt := 73) dX12_asks_69 (by decide) ?_
    exact X_lv [1, 2, 3, 0] rfl (kX12_asks_73 _ hd G hm)
def mX12_cellBy_7   : Nat → (Nat → Nat → Int32) → (Nat → Nat → Int64) → Int32 → Int32 → Int64 → Int32 → Option (Int32 × (Nat → Nat → Int32) × (Nat → Nat → Int64))
  | 0, _, _, _, _, _, _ => none
  | f + 1, I, L, a1, a2, a3, a5 => (if (I 124 4) ≤ a5 then (some (a2, I, L)) else (Option.bind (mX12_canPaint I a5 a1) (fun q2 => (if q2 = 0 then (mX12_cellBy_7 f I L a1 a2 a3 (a5 + 1)) else (Option.bind (mX12_asks I L a1 a5) (fun q5 => (Option.bind (mX12_wanted q5.1 q5.2) (fun q7 => (if (lg_cmp q7.1 a3) ≤ 0 then (mX12_cellBy_7 f q5.1 q7.2 a1 a2 a3 (a5 + 1)) else (mX12_cellBy_7 f q5.1 q7.2 a1 a5 q7.1 (a5 + 1)))))))))))
set_option maxHeartbeats 400000 in
set_option maxRecDepth 100000 in
theorem kX12_cellBy_7 {E : xE} {B : Nat} {n : Nat} {K : Nat → Nat × Nat} {P : Nat → Nat → Nat}   {q : Int32 × (Nat → Nat → Int32) × (Nat → Nat → Int64)} (d : Nat) (hd : 5 ≤ d) (G : GW K P)   : ∀ (f : Nat) (I : Nat → Nat → Int32) (L : Nat → Nat → Int64) (a1 : Int32) (a2 : Int32) (a3 : Int64) (a5 : Int32), mX12_cellBy_7 f I L a1 a2 a3 a5 = some q → X E B d 0 0 yX12_cellBy cX12_cellBy 8 (some .int) (some (.int q.1), (n, K, P, q.2.1, q.2.2)) 7 [(0, .ref 123), (1, .int a1), (2, .int a2), (3, .long a3), (5, .int a5)] [] 0 0 (n, K, P, I, L) := by
  obtain ⟨d, rfl⟩ : ∃ d0, d = d0 + 1 := ⟨d - 1, by omega⟩
  intro f
  induction f with
  | zero => intro _ _ _ _ _ _ hm; exact nomatch (show (none : Option (Int32 × (Nat → Nat → Int32) × (Nat → Nat → Int64))) = some q from hm)
  | succ f ih =>
    intro I L a1 a2 a3 a5 hm
    rw [mX12_cellBy_7] at hm
    refine X_iload 4 dX12_cellBy_7 rfl ?_
    refine X_aload_n 0 dX12_cellBy_9 rfl rfl rfl ?_
    refine X_getPe fl_X12_9 (g_K123 G) rfl (g_P123_1 G) dX12_cellBy_10 ?_
    refine X_iconst (v := (4 : Int32)) dX12_cellBy_13 (by decide) ?_
    refine X_ialdJ (j := 4) (g_K124 G) rfl (by decide) dX12_cellBy_14 ?_
    refine X_icmp_ge (tgt := 60) dX12_cellBy_15 (by decide) (fun c1 => ?_) (fun c1 => ?_)
    · replace hm := ip c1 hm
      refine X_iload_n 2 dX12_cellBy_60 rfl rfl ?_
      replace hm := Option.some.inj hm
      subst hm
      exact X_iret dX12_cellBy_61 rfl
    · replace hm := iq c1 hm
      refine X_aload_n 0 dX12_cellBy_18 rfl rfl rfl ?_
      refine X_iload 4 dX12_cellBy_19 rfl ?_
      refine X_iload_n 1 dX12_cellBy_21 rfl rfl ?_
      obtain ⟨q2, e3, hm⟩ := ob hm
      refine X_cV1 (ci := 11) (kX12_canPaint d (by omega) G e3) ml_X12_435 mi_X12_canPaint rfl cf_11 (g_K123 G) rfl rfl (Nat.le_refl _) ⟨Nat.le_refl _, Nat.le_refl _⟩ (Nat.le_of_ble_eq_true rfl) dX12_cellBy_22 ?_
      refine X_if_eq (tgt := 54) dX12_cellBy_25 (by decide) (fun c4 => ?_) (fun c4 => ?_)
      · replace hm := ip c4 hm
        refine X_iinc (lv' := [(5, .int (a5 + 1)), (0, .ref 123), (1, .int a1), (2, .int a2), (3, .long a3)]) 4 dX12_cellBy_54 rfl rfl (by decide) rfl ?_
        refine X_goto (tgt := 7) dX12_cellBy_57 (by decide) ?_
        exact X_lv [1, 2, 3, 4, 0] rfl (ih _ _ _ _ _ _ hm)
      · replace hm := iq c4 hm
        refine X_aload_n 0 dX12_cellBy_28 rfl rfl rfl ?_
        refine X_iload_n 1 dX12_cellBy_29 rfl rfl ?_
        refine X_iload 4 dX12_cellBy_30 rfl ?_
        obtain ⟨q5, e6, hm⟩ := ob hm
        refine X_cV0 (ci := 11) (kX12_asks d (by omega) G e6) ml_X12_438 mi_X12_asks rfl cf_11 (g_K123 G) rfl rfl (Nat.le_refl _) ⟨Nat.le_refl _, Nat.le_refl _⟩ (Nat.le_of_ble_eq_true rfl) dX12_cellBy_32 ?_
        refine X_aload_n 0 dX12_cellBy_35 rfl rfl rfl ?_
        obtain ⟨q7, e8, hm⟩ := ob hm
        refine X_cV1 (ci := 11) (kX12_wanted d (by omega) G e8) ml_X12_441 mi_X12_wanted rfl cf_11 (g_K123 G) rfl rfl (Nat.le_refl _) ⟨Nat.le_refl _, Nat.le_refl _⟩ (Nat.le_of_ble_eq_true rfl) dX12_cellBy_36 ?_
        refine X_lstore (lv' := [(6, .long q7.1), (0, .ref 123), (1, .int a1), (2, .int a2), (3, .long a3), (5, .int a5)]) dX12_cellBy_39 (by decide) rfl ?_
        refine X_lload 0 dX12_cellBy_41 rfl ?_
        refine X_lload_n 4 dX12_cellBy_43 rfl rfl ?_
        refine X_lcmp dX12_cellBy_44 ?_
        refine X_if_le (tgt := 54) dX12_cellBy_45 (by decide) (fun c9 => ?_) (fun c9 => ?_)
        · replace hm := ip c9 hm
          refine X_iinc (lv' := [(5, .int (a5 + 1)), (6, .long q7.1), (0, .ref 123), (1, .int a1), (2, .int a2), (3, .long a3)]) 5 dX12_cellBy_54 rfl rfl (by decide) rfl ?_
          refine X_goto (tgt := 7) dX12_cellBy_57 (by decide) ?_
          exact X_lv [2, 3, 4, 5, 0] rfl (ih _ _ _ _ _ _ hm)
        · replace hm := iq c9 hm
          refine X_iload 5 dX12_cellBy_48 rfl ?_
          refine X_istore_n (lv' := [(2, .int a5), (6, .long q7.1), (0, .ref 123), (1, .int a1), (3, .long a3), (5, .int a5)]) dX12_cellBy_50 rfl (by decide) rfl ?_
          refine X_lload 1 dX12_cellBy_51 rfl ?_
          refine X_lstore_n (lv' := [(3, .long q7.1), (2, .int a5), (6, .long q7.1), (0, .ref 123), (1, .int a1), (5, .int a5)]) dX12_cellBy_53 rfl (by decide) rfl ?_
          refine X_iinc (lv' := [(5, .int (a5 + 1)), (3, .long q7.1), (2, .int a5), (6, .long q7.1), (0, .ref 123), (1, .int a1)]) 5 dX12_cellBy_54 rfl rfl (by decide) rfl ?_
          refine X_goto (tgt := 7) dX12_cellBy_57 (by decide) ?_
          exact X_lv [4, 5, 2, 1, 0] rfl (ih _ _ _ _ _ _ hm)
def mX12_cellBy  (I : Nat → Nat → Int32) (L : Nat → Nat → Int64) (a1 : Int32) : Option (Int32 × (Nat → Nat → Int32) × (Nat → Nat → Int64)) := (mX12_cellBy_7 xf I L a1 (-1 : Int32) (0 : Int64) (0 : Int32))
set_option maxHeartbeats 400000 in
set_option maxRecDepth 100000 in
theorem kX12_cellBy {E : xE} {B : Nat} {n : Nat} {K : Nat → Nat × Nat} {P : Nat → Nat → Nat} {I : Nat → Nat → Int32} {L : Nat → Nat → Int64}  {a1 : Int32} {q : Int32 × (Nat → Nat → Int32) × (Nat → Nat → Int64)} (d : Nat) (hd : 5 ≤ d) (G : GW K P)   (hm : mX12_cellBy I L a1 = some q) : MX E B d 0 0 yX12_cellBy cX12_cellBy 8 (some .int) [.ref 123, .int a1] (n, K, P, I, L) (some (.int q.1), (n, K, P, q.2.1, q.2.2)) := by
  refine MX_of (lv := [(0, .ref 123), (1, .int a1)]) (by decide +kernel) (Nat.le_of_ble_eq_true rfl) rfl ?_
  obtain ⟨d, rfl⟩ : ∃ d0, d = d0 + 1 := ⟨d - 1, by omega⟩
  unfold mX12_cellBy at hm
  refine X_iconst (v := (-1 : Int32)) dX12_cellBy_0 (by decide) ?_
  refine X_istore_n (lv' := [(2, .int (-1 : Int32)), (0, .ref 123), (1, .int a1)]) dX12_cellBy_1 rfl (by decide) rfl ?_
  refine X_lconst (v := (0 : Int64)) dX12_cellBy_2 (by decide) ?_
  refine X_lstore_n (lv' := [(3, .long (0 : Int64)), (2, .int (-1 : Int32)), (0, .ref 123), (1, .int a1)]) dX12_cellBy_3 rfl (by decide) rfl ?_
  refine X_iconst (v := (0 : Int32)) dX12_cellBy_4 (by decide) ?_
  refine X_istore (lv' := [(5, .int (0 : Int32)), (3, .long (0 : Int64)), (2, .int (-1 : Int32)), (0, .ref 123), (1, .int a1)]) dX12_cellBy_5 (by decide) rfl ?_
  refine X_lv [3, 4, 2, 1, 0] rfl (kX12_cellBy_7 _ hd G xf _ _ _ _ _ _  hm)
def mX12_paintsAll_4   : Nat → (Nat → Nat → Int32) → (Nat → Nat → Int64) → Int32 → Int32 → Option (Int32 × (Nat → Nat → Int32) × (Nat → Nat → Int64))
  | 0, _, _, _, _ => none
  | f + 1, I, L, a1, a2 => (if (I 124 5) ≤ a2 then (some (a1, I, L)) else (if (I 124 12) = (-1 : Int32) then (some (a1, I, L)) else (Option.bind (mX12_cellBy I L a2) (fun q3 => (if q3.1 = (-1 : Int32) then (mX12_paintsAll_4 f q3.2.1 q3.2.2 a1 (a2 + 1)) else (Option.bind (mX12_paints q3.2.1 q3.1 a2) (fun q6 => (if inb a2 4 = true then (if inb a2 4 = true then (mX12_paintsAll_4 f (xu q6 128 (ix a2) ((q6 128 (ix a2)) - (q6 124 2))) q3.2.2 (a1 + 1) (a2 + 1)) else none) else none))))))))
set_option maxHeartbeats 400000 in
set_option maxRecDepth 100000 in
theorem kX12_paintsAll_4 {E : xE} {B : Nat} {n : Nat} {K : Nat → Nat × Nat} {P : Nat → Nat → Nat}   {q : Int32 × (Nat → Nat → Int32) × (Nat → Nat → Int64)} (d : Nat) (hd : 6 ≤ d) (G : GW K P)   : ∀ (f : Nat) (I : Nat → Nat → Int32) (L : Nat → Nat → Int64) (a1 : Int32) (a2 : Int32), mX12_paintsAll_4 f I L a1 a2 = some q → X E B d 0 0 yX12_paintsAll cX12_paintsAll 4 (some .int) (some (.int q.1), (n, K, P, q.2.1, q.2.2)) 4 [(0, .ref 123), (1, .int a1), (2, .int a2)] [] 0 0 (n, K, P, I, L) := by
  obtain ⟨d, rfl⟩ : ∃ d0, d = d0 + 1 := ⟨d - 1, by omega⟩
  intro f
  induction f with
  | zero => intro _ _ _ _ hm; exact nomatch (show (none : Option (Int32 × (Nat → Nat → Int32) × (Nat → Nat → Int64))) = some q from hm)
  | succ f ih =>
    intro I L a1 a2 hm
    rw [mX12_paintsAll_4] at hm
    refine X_iload_n 2 dX12_paintsAll_4 rfl rfl ?_
    refine X_aload_n 0 dX12_paintsAll_5 rfl rfl rfl ?_
    refine X_getPe fl_X12_9 (g_K123 G) rfl (g_P123_1 G) dX12_paintsAll_6 ?_
    refine X_iconst (v := (5 : Int32)) dX12_paintsAll_9 (by decide) ?_
    refine X_ialdJ (j := 5) (g_K124 G) rfl (by decide) dX12_paintsAll_10 ?_
    refine X_icmp_ge (tgt := 66) dX12_paintsAll_11 (by decide) (fun c1 => ?_) (fun c1 => ?_)
    · replace hm := ip c1 hm
      refine X_iload_n 1 dX12_paintsAll_66 rfl rfl ?_
      replace hm := Option.some.inj hm
      subst hm
      exact X_iret dX12_paintsAll_67 rfl
    · replace hm := iq c1 hm
      refine X_aload_n 0 dX12_paintsAll_14 rfl rfl rfl ?_
      refine X_getPe fl_X12_9 (g_K123 G) rfl (g_P123_1 G) dX12_paintsAll_15 ?_
      refine X_bipush (v := (12 : Int32)) dX12_paintsAll_18 (by decide) ?_
      refine X_ialdJ (j := 12) (g_K124 G) rfl (by decide) dX12_paintsAll_20 ?_
      refine X_iconst (v := (-1 : Int32)) dX12_paintsAll_21 (by decide) ?_
      refine X_icmp_eq (tgt := 66) dX12_paintsAll_22 (by decide) (fun c2 => ?_) (fun c2 => ?_)
      · replace hm := ip c2 hm
        refine X_iload_n 1 dX12_paintsAll_66 rfl rfl ?_
        replace hm := Option.some.inj hm
        subst hm
        exact X_iret dX12_paintsAll_67 rfl
      · replace hm := iq c2 hm
        refine X_aload_n 0 dX12_paintsAll_25 rfl rfl rfl ?_
        refine X_iload_n 2 dX12_paintsAll_26 rfl rfl ?_
        obtain ⟨q3, e4, hm⟩ := ob hm
        refine X_cV1 (ci := 11) (kX12_cellBy d (by omega) G e4) ml_X12_445 mi_X12_cellBy rfl cf_11 (g_K123 G) rfl rfl (Nat.le_refl _) ⟨Nat.le_refl _, Nat.le_refl _⟩ (Nat.le_of_ble_eq_true rfl) dX12_paintsAll_27 ?_
        refine X_istore_n (lv' := [(3, .int q3.1), (0, .ref 123), (1, .int a1), (2, .int a2)]) dX12_paintsAll_30 rfl (by decide) rfl ?_
        refine X_iload_n 0 dX12_paintsAll_31 rfl rfl ?_
        refine X_iconst (v := (-1 : Int32)) dX12_paintsAll_32 (by decide) ?_
        refine X_icmp_eq (tgt := 60) dX12_paintsAll_33 (by decide) (fun c5 => ?_) (fun c5 => ?_)
        · replace hm := ip c5 hm
          refine X_iinc (lv' := [(2, .int (a2 + 1)), (3, .int q3.1), (0, .ref 123), (1, .int a1)]) 3 dX12_paintsAll_60 rfl rfl (by decide) rfl ?_
          refine X_goto (tgt := 4) dX12_paintsAll_63 (by decide) ?_
          exact X_lv [2, 3, 0] rfl (ih _ _ _ _ hm)
        · replace hm := iq c5 hm
          refine X_aload_n 1 dX12_paintsAll_36 rfl rfl rfl ?_
          refine X_iload_n 0 dX12_paintsAll_37 rfl rfl ?_
          refine X_iload_n 3 dX12_paintsAll_38 rfl rfl ?_
          obtain ⟨q6, e7, hm⟩ := ob hm
          refine X_cV0 (ci := 11) (kX12_paints d (by omega) G e7) ml_X12_448 mi_X12_paints rfl cf_11 (g_K123 G) rfl rfl (Nat.le_refl _) ⟨Nat.le_refl _, Nat.le_refl _⟩ (Nat.le_of_ble_eq_true rfl) dX12_paintsAll_39 ?_
          refine X_aload_n 1 dX12_paintsAll_42 rfl rfl rfl ?_
          refine X_getPe fl_X12_22 (g_K123 G) rfl (g_P123_5 G) dX12_paintsAll_43 ?_
          refine X_iload_n 3 dX12_paintsAll_46 rfl rfl ?_
          refine X_dup2 dX12_paintsAll_47 rfl rfl ?_
          obtain ⟨g8, hm⟩ := og hm
          refine X_ialdJ (g_K128 G) g8 rfl dX12_paintsAll_48 ?_
          refine X_aload_n 1 dX12_paintsAll_49 rfl rfl rfl ?_
          refine X_getPe fl_X12_9 (g_K123 G) rfl (g_P123_1 G) dX12_paintsAll_50 ?_
          refine X_iconst (v := (2 : Int32)) dX12_paintsAll_53 (by decide) ?_
          refine X_ialdJ (j := 2) (g_K124 G) rfl (by decide) dX12_paintsAll_54 ?_
          refine X_isub dX12_paintsAll_55 ?_
          obtain ⟨g9, hm⟩ := og hm
          refine X_iastJ (g_K128 G) g9 rfl dX12_paintsAll_56 ?_
          refine X_iinc (lv' := [(1, .int (a1 + 1)), (3, .int q3.1), (0, .ref 123), (2, .int a2)]) 2 dX12_paintsAll_57 rfl rfl (by decide) rfl ?_
          refine X_iinc (lv' := [(2, .int (a2 + 1)), (1, .int (a1 + 1)), (3, .int q3.1), (0, .ref 123)]) 3 dX12_paintsAll_60 rfl rfl (by decide) rfl ?_
          refine X_goto (tgt := 4) dX12_paintsAll_63 (by decide) ?_
          exact X_lv [3, 1, 0] rfl (ih _ _ _ _ hm)
def mX12_paintsAll  (I : Nat → Nat → Int32) (L : Nat → Nat → Int64) : Option (Int32 × (Nat → Nat → Int32) × (Nat → Nat → Int64)) := (mX12_paintsAll_4 xf I L (0 : Int32) (0 : Int32))
set_option maxHeartbeats 400000 in
set_option maxRecDepth 100000 in
theorem kX12_paintsAll {E : xE} {B : Nat} {n : Nat} {K : Nat → Nat × Nat} {P : Nat → Nat → Nat} {I : Nat → Nat → Int32} {L : Nat → Nat → Int64}   {q : Int32 × (Nat → Nat → Int32) × (Nat → Nat → Int64)} (d : Nat) (hd : 6 ≤ d) (G : GW K P)   (hm : mX12_paintsAll I L = some q) : MX E B d 0 0 yX12_paintsAll cX12_paintsAll 4 (some .int) [.ref 123] (n, K, P, I, L) (some (.int q.1), (n, K, P, q.2.1, q.2.2)) := by
  refine MX_of (lv := [(0, .ref 123)]) (by decide +kernel) (Nat.le_of_ble_eq_true rfl) rfl ?_
  obtain ⟨d, rfl⟩ : ∃ d0, d = d0 + 1 := ⟨d - 1, by omega⟩
  unfold mX12_paintsAll at hm
  refine X_iconst (v := (0 : Int32)) dX12_paintsAll_0 (by decide) ?_
  refine X_istore_n (lv' := [(1, .int (0 : Int32)), (0, .ref 123)]) dX12_paintsAll_1 rfl (by decide) rfl ?_
  refine X_iconst (v := (0 : Int32)) dX12_paintsAll_2 (by decide) ?_
  refine X_istore_n (lv' := [(2, .int (0 : Int32)), (1, .int (0 : Int32)), (0, .ref 123)]) dX12_paintsAll_3 rfl (by decide) rfl ?_
  refine X_lv [2, 1, 0] rfl (kX12_paintsAll_4 _ hd G xf _ _ _ _  hm)
def mX12_washes_12  (e33 : (Nat → Nat → Int32) → Int32 → Option ((Nat → Nat → Int32))) : Nat → (Nat → Nat → Int32) → Int32 → Option ((Nat → Nat → Int32))
  | 0, _, _ => none
  | f + 1, I, a1 => (Option.bind (mX12_isTopWet I a1) (fun q2 => (if q2 = 0 then (e33 I a1) else (if inb a1 16 = true then (if inb a1 16 = true then (mX12_washes_12 e33 f (xu I 131 (ix a1) ((I 131 (ix a1)) - (1 : Int32))) a1) else none) else none))))
set_option maxHeartbeats 400000 in
set_option maxRecDepth 100000 in
theorem kX12_washes_12 {E : xE} {B : Nat} {n : Nat} {K : Nat → Nat × Nat} {P : Nat → Nat → Nat} {L : Nat → Nat → Int64}  {e33 : (Nat → Nat → Int32) → Int32 → Option ((Nat → Nat → Int32))} {q : (Nat → Nat → Int32)} (d : Nat) (hd : 2 ≤ d) (G : GW K P)  (he33 : ∀ (I : Nat → Nat → Int32) (a1 : Int32), e33 I a1 = some q → X E B d 0 0 yX12_washes cX12_washes 2 (none : Option Jvm.ClassFile.FieldType) (none, (n, K, P, q, L)) 33 [(0, .ref 123), (1, .int a1)] [] 0 0 (n, K, P, I, L)) : ∀ (f : Nat) (I : Nat → Nat → Int32) (a1 : Int32), mX12_washes_12 e33 f I a1 = some q → X E B d 0 0 yX12_washes cX12_washes 2 (none : Option Jvm.ClassFile.FieldType) (none, (n, K, P, q, L)) 12 [(0, .ref 123), (1, .int a1)] [] 0 0 (n, K, P, I, L) := by
  obtain ⟨d, rfl⟩ : ∃ d0, d = d0 + 1 := ⟨d - 1, by omega⟩
  intro f
  induction f with
  | zero => intro _ _ hm; exact nomatch (show (none : Option ((Nat → Nat → Int32))) = some q from hm)
  | succ f ih =>
    intro I a1 hm
    rw [mX12_washes_12] at hm
    refine X_aload_n 0 dX12_washes_12 rfl rfl rfl ?_
    refine X_iload_n 1 dX12_washes_13 rfl rfl ?_
    obtain ⟨q2, e3, hm⟩ := ob hm
    refine X_cV1 (ci := 11) (kX12_isTopWet d (by omega) G e3) ml_X12_414 mi_X12_isTopWet rfl cf_11 (g_K123 G) rfl rfl (Nat.le_refl _) ⟨Nat.le_refl _, Nat.le_refl _⟩ (Nat.le_of_ble_eq_true rfl) dX12_washes_14 ?_
    refine X_if_eq (tgt := 33) dX12_washes_17 (by decide) (fun c4 => ?_) (fun c4 => ?_)
    · replace hm := ip c4 hm
      exact he33 _ _ hm
    · replace hm := iq c4 hm
      refine X_aload_n 0 dX12_washes_20 rfl rfl rfl ?_
      refine X_getPe fl_X12_31 (g_K123 G) rfl (g_P123_8 G) dX12_washes_21 ?_
      refine X_iload_n 1 dX12_washes_24 rfl rfl ?_
      refine X_dup2 dX12_washes_25 rfl rfl ?_
      obtain ⟨g5, hm⟩ := og hm
      refine X_ialdJ (g_K131 G) g5 rfl dX12_washes_26 ?_
      refine X_iconst (v := (1 : Int32)) dX12_washes_27 (by decide) ?_
      refine X_isub dX12_washes_28 ?_
      obtain ⟨g6, hm⟩ := og hm
      refine X_iastJ (g_K131 G) g6 rfl dX12_washes_29 ?_
      refine X_goto (tgt := 12) dX12_washes_30 (by decide) ?_
      exact ih _ _ hm
def mX12_washes_2   : Nat → (Nat → Nat → Int32) → Int32 → Option ((Nat → Nat → Int32))
  | 0, _, _ => none
  | f + 1, I, a1 => (if (I 124 4) ≤ a1 then (some I) else (mX12_washes_12 (fun (I_7 : (Nat → Nat → Int32)) (a1_7 : Int32) => (mX12_washes_2 f I_7 (a1_7 + 1))) xf I a1))
set_option maxHeartbeats 400000 in
set_option maxRecDepth 100000 in
theorem kX12_washes_2 {E : xE} {B : Nat} {n : Nat} {K : Nat → Nat × Nat} {P : Nat → Nat → Nat} {L : Nat → Nat → Int64}   {q : (Nat → Nat → Int32)} (d : Nat) (hd : 2 ≤ d) (G : GW K P)   : ∀ (f : Nat) (I : Nat → Nat → Int32) (a1 : Int32), mX12_washes_2 f I a1 = some q → X E B d 0 0 yX12_washes cX12_washes 2 (none : Option Jvm.ClassFile.FieldType) (none, (n, K, P, q, L)) 2 [(0, .ref 123), (1, .int a1)] [] 0 0 (n, K, P, I, L) := by
  obtain ⟨d, rfl⟩ : ∃ d0, d = d0 + 1 := ⟨d - 1, by omega⟩
  intro f
  induction f with
  | zero => intro _ _ hm; exact nomatch (show (none : Option ((Nat → Nat → Int32))) = some q from hm)
  | succ f ih =>
    intro I a1 hm
    rw [mX12_washes_2] at hm
    refine X_iload_n 1 dX12_washes_2 rfl rfl ?_
    refine X_aload_n 0 dX12_washes_3 rfl rfl rfl ?_
    refine X_getPe fl_X12_9 (g_K123 G) rfl (g_P123_1 G) dX12_washes_4 ?_
    refine X_iconst (v := (4 : Int32)) dX12_washes_7 (by decide) ?_
    refine X_ialdJ (j := 4) (g_K124 G) rfl (by decide) dX12_washes_8 ?_
    refine X_icmp_ge (tgt := 39) dX12_washes_9 (by decide) (fun c1 => ?_) (fun c1 => ?_)
    · replace hm := ip c1 hm
      replace hm := Option.some.inj hm
      subst hm
      exact X_vret dX12_washes_39 rfl
    · replace hm := iq c1 hm
      refine kX12_washes_12 _ hd G (fun I_7 a1_7 hm => ?_) xf _ _  hm
      refine X_iinc (lv' := [(1, .int (a1_7 + 1)), (0, .ref 123)]) 1 dX12_washes_33 rfl rfl (by decide) rfl ?_
      refine X_goto (tgt := 2) dX12_washes_36 (by decide) ?_
      exact X_lv [1, 0] rfl (ih _ _ hm)
def mX12_washes  (I : Nat → Nat → Int32) : Option ((Nat → Nat → Int32)) := (mX12_washes_2 xf I (0 : Int32))
set_option maxHeartbeats 400000 in
set_option maxRecDepth 100000 in
theorem kX12_washes {E : xE} {B : Nat} {n : Nat} {K : Nat → Nat × Nat} {P : Nat → Nat → Nat} {I : Nat → Nat → Int32} {L : Nat → Nat → Int64}   {q : (Nat → Nat → Int32)} (d : Nat) (hd : 2 ≤ d) (G : GW K P)   (hm : mX12_washes I = some q) : MX E B d 0 0 yX12_washes cX12_washes 2 (none : Option Jvm.ClassFile.FieldType) [.ref 123] (n, K, P, I, L) (none, (n, K, P, q, L)) := by
  refine MX_of (lv := [(0, .ref 123)]) (by decide +kernel) (Nat.le_of_ble_eq_true rfl) rfl ?_
  obtain ⟨d, rfl⟩ : ∃ d0, d = d0 + 1 := ⟨d - 1, by omega⟩
  unfold mX12_washes at hm
  refine X_iconst (v := (0 : Int32)) dX12_washes_0 (by decide) ?_
  refine X_istore_n (lv' := [(1, .int (0 : Int32)), (0, .ref 123)]) dX12_washes_1 rfl (by decide) rfl ?_
  refine X_lv [1, 0] rfl (kX12_washes_2 _ hd G xf _ _  hm)
def mX12_ends_31   : Nat → (Nat → Nat → Int32) → Int32 → Option ((Nat → Nat → Int32))
  | 0, _, _ => none
  | f + 1, I, a1 => (if (I 124 3) ≤ a1 then (some I) else (if (xrem (I 124 9) (24 : Int32)) = (12 : Int32) then (Option.bind (mX12_thingOwner I a1) (fun q6 => (if q6.1 = (-1 : Int32) then (mX12_ends_31 f q6.2 (a1 + 1)) else (if inb q6.1 4 = true then (if inb a1 4 = true then (if inb q6.1 4 = true then (if inb q6.1 4 = true then (if inb a1 4 = true then (if (((xu q6.2 161 (ix q6.1) ((q6.2 161 (ix q6.1)) + (q6.2 126 (ix a1)))) 128 (ix q6.1)) + ((xu q6.2 161 (ix q6.1) ((q6.2 161 (ix q6.1)) + (q6.2 126 (ix a1)))) 126 (ix a1))) ≤ (999 : Int32) then (if inb q6.1 4 = true then (if inb a1 4 = true then (if inb q6.1 4 = true then (mX12_ends_31 f (xu (xu q6.2 161 (ix q6.1) ((q6.2 161 (ix q6.1)) + (q6.2 126 (ix a1)))) 128 (ix q6.1) (((xu q6.2 161 (ix q6.1) ((q6.2 161 (ix q6.1)) + (q6.2 126 (ix a1)))) 128 (ix q6.1)) + ((xu q6.2 161 (ix q6.1) ((q6.2 161 (ix q6.1)) + (q6.2 126 (ix a1)))) 126 (ix a1)))) (a1 + 1)) else none) else none) else none) else (if inb q6.1 4 = true then (mX12_ends_31 f (xu (xu q6.2 161 (ix q6.1) ((q6.2 161 (ix q6.1)) + (q6.2 126 (ix a1)))) 128 (ix q6.1) (999 : Int32)) (a1 + 1)) else none)) else none) else none) else none) else none) else none)))) else (some I)))
set_option maxHeartbeats 400000 in
set_option maxRecDepth 100000 in
theorem kX12_ends_31 {E : xE} {B : Nat} {n : Nat} {K : Nat → Nat × Nat} {P : Nat → Nat → Nat} {L : Nat → Nat → Int64}   {q : (Nat → Nat → Int32)} (d : Nat) (hd : 4 ≤ d) (G : GW K P)   : ∀ (f : Nat) (I : Nat → Nat → Int32) (a1 : Int32), mX12_ends_31 f I a1 = some q → X E B d 0 0 yX12_ends cX12_ends 3 (none : Option Jvm.ClassFile.FieldType) (none, (n, K, P, q, L)) 31 [(0, .ref 123), (1, .int a1)] [] 0 0 (n, K, P, I, L) := by
  obtain ⟨d, rfl⟩ : ∃ d0, d = d0 + 1 := ⟨d - 1, by omega⟩
  intro f
  induction f with
  | zero => intro _ _ hm; exact nomatch (show (none : Option ((Nat → Nat → Int32))) = some q from hm)
  | succ f ih =>
    intro I a1 hm
    rw [mX12_ends_31] at hm
    refine X_iload_n 1 dX12_ends_31 rfl rfl ?_
    refine X_aload_n 0 dX12_ends_32 rfl rfl rfl ?_
    refine X_getPe fl_X12_9 (g_K123 G) rfl (g_P123_1 G) dX12_ends_33 ?_
    refine X_iconst (v := (3 : Int32)) dX12_ends_36 (by decide) ?_
    refine X_ialdJ (j := 3) (g_K124 G) rfl (by decide) dX12_ends_37 ?_
    refine X_icmp_ge (tgt := 132) dX12_ends_38 (by decide) (fun c4 => ?_) (fun c4 => ?_)
    · replace hm := ip c4 hm
      replace hm := Option.some.inj hm
      subst hm
      exact X_vret dX12_ends_132 rfl
    · replace hm := iq c4 hm
      refine X_aload_n 0 dX12_ends_41 rfl rfl rfl ?_
      refine X_getPe fl_X12_9 (g_K123 G) rfl (g_P123_1 G) dX12_ends_42 ?_
      refine X_bipush (v := (9 : Int32)) dX12_ends_45 (by decide) ?_
      refine X_ialdJ (j := 9) (g_K124 G) rfl (by decide) dX12_ends_47 ?_
      refine X_bipush (v := (24 : Int32)) dX12_ends_48 (by decide) ?_
      refine X_irem dX12_ends_50 (by decide) ?_
      refine X_bipush (v := (12 : Int32)) dX12_ends_51 (by decide) ?_
      refine X_icmp_ne (tgt := 132) dX12_ends_53 (by decide) (fun c5 => ?_) (fun c5 => ?_)
      · replace hm := iq c5 hm
        replace hm := Option.some.inj hm
        subst hm
        exact X_vret dX12_ends_132 rfl
      · replace hm := ip c5 hm
        refine X_aload_n 0 dX12_ends_56 rfl rfl rfl ?_
        refine X_iload_n 1 dX12_ends_57 rfl rfl ?_
        obtain ⟨q6, e7, hm⟩ := ob hm
        refine X_cV1 (ci := 11) (kX12_thingOwner d (by omega) G e7) ml_X12_420 mi_X12_thingOwner rfl cf_11 (g_K123 G) rfl rfl (Nat.le_refl _) ⟨Nat.le_refl _, Nat.le_refl _⟩ (Nat.le_of_ble_eq_true rfl) dX12_ends_58 ?_
        refine X_istore_n (lv' := [(2, .int q6.1), (0, .ref 123), (1, .int a1)]) dX12_ends_61 rfl (by decide) rfl ?_
        refine X_iload_n 0 dX12_ends_62 rfl rfl ?_
        refine X_iconst (v := (-1 : Int32)) dX12_ends_63 (by decide) ?_
        refine X_icmp_eq (tgt := 126) dX12_ends_64 (by decide) (fun c8 => ?_) (fun c8 => ?_)
        · replace hm := ip c8 hm
          refine X_iinc (lv' := [(1, .int (a1 + 1)), (2, .int q6.1), (0, .ref 123)]) 2 dX12_ends_126 rfl rfl (by decide) rfl ?_
          refine X_goto (tgt := 31) dX12_ends_129 (by decide) ?_
          exact X_lv [2, 0] rfl (ih _ _ hm)
        · replace hm := iq c8 hm
          refine X_aload_n 1 dX12_ends_67 rfl rfl rfl ?_
          refine X_getPe fl_X12_127 (g_K123 G) rfl (g_P123_48 G) dX12_ends_68 ?_
          refine X_iload_n 0 dX12_ends_71 rfl rfl ?_
          refine X_dup2 dX12_ends_72 rfl rfl ?_
          obtain ⟨g9, hm⟩ := og hm
          refine X_ialdJ (g_K161 G) g9 rfl dX12_ends_73 ?_
          refine X_aload_n 1 dX12_ends_74 rfl rfl rfl ?_
          refine X_getPe fl_X12_16 (g_K123 G) rfl (g_P123_3 G) dX12_ends_75 ?_
          refine X_iload_n 2 dX12_ends_78 rfl rfl ?_
          obtain ⟨g10, hm⟩ := og hm
          refine X_ialdJ (g_K126 G) g10 rfl dX12_ends_79 ?_
          refine X_iadd dX12_ends_80 ?_
          obtain ⟨g11, hm⟩ := og hm
          refine X_iastJ (g_K161 G) g11 rfl dX12_ends_81 ?_
          refine X_aload_n 1 dX12_ends_82 rfl rfl rfl ?_
          refine X_getPe fl_X12_22 (g_K123 G) rfl (g_P123_5 G) dX12_ends_83 ?_
          refine X_iload_n 0 dX12_ends_86 rfl rfl ?_
          refine X_aload_n 1 dX12_ends_87 rfl rfl rfl ?_
          refine X_getPe fl_X12_22 (g_K123 G) rfl (g_P123_5 G) dX12_ends_88 ?_
          refine X_iload_n 0 dX12_ends_91 rfl rfl ?_
          obtain ⟨g12, hm⟩ := og hm
          refine X_ialdJ (g_K128 G) g12 rfl dX12_ends_92 ?_
          refine X_aload_n 1 dX12_ends_93 rfl rfl rfl ?_
          refine X_getPe fl_X12_16 (g_K123 G) rfl (g_P123_3 G) dX12_ends_94 ?_
          refine X_iload_n 2 dX12_ends_97 rfl rfl ?_
          obtain ⟨g13, hm⟩ := og hm
          refine X_ialdJ (g_K126 G) g13 rfl dX12_ends_98 ?_
          refine X_iadd dX12_ends_99 ?_
          refine X_sipush (v := (999 : Int32)) dX12_ends_100 (by decide) ?_
          refine X_icmp_le (tgt := 112) dX12_ends_103 (by decide) (fun c14 => ?_) (fun c14 => ?_)
          · replace hm := ip c14 hm
            refine X_aload_n 1 dX12_ends_112 rfl rfl rfl ?_
            refine X_getPe fl_X12_22 (g_K123 G) rfl (g_P123_5 G) dX12_ends_113 ?_
            refine X_iload_n 0 dX12_ends_116 rfl rfl ?_
            obtain ⟨g15, hm⟩ := og hm
            refine X_ialdJ (g_K128 G) g15 rfl dX12_ends_117 ?_
            refine X_aload_n 1 dX12_ends_118 rfl rfl rfl ?_
            refine X_getPe fl_X12_16 (g_K123 G) rfl (g_P123_3 G) dX12_ends_119 ?_
            refine X_iload_n 2 dX12_ends_122 rfl rfl ?_
            obtain ⟨g16, hm⟩ := og hm
            refine X_ialdJ (g_K126 G) g16 rfl dX12_ends_123 ?_
            refine X_iadd dX12_ends_124 ?_
            obtain ⟨g17, hm⟩ := og hm
            refine X_iastJ (g_K128 G) g17 rfl dX12_ends_125 ?_
            refine X_iinc (lv' := [(1, .int (a1 + 1)), (2, .int q6.1), (0, .ref 123)]) 2 dX12_ends_126 rfl rfl (by decide) rfl ?_
            refine X_goto (tgt := 31) dX12_ends_129 (by decide) ?_
            exact X_lv [2, 0] rfl (ih _ _ hm)
          · replace hm := iq c14 hm
            refine X_sipush (v := (999 : Int32)) dX12_ends_106 (by decide) ?_
            refine X_goto (tgt := 125) dX12_ends_109 (by decide) ?_
            obtain ⟨g18, hm⟩ := og hm
            refine X_iastJ (g_K128 G) g18 rfl dX12_ends_125 ?_
            refine X_iinc (lv' := [(1, .int (a1 + 1)), (2, .int q6.1), (0, .ref 123)]) 2 dX12_ends_126 rfl rfl (by decide) rfl ?_
            refine X_goto (tgt := 31) dX12_ends_129 (by decide) ?_
            exact X_lv [2, 0] rfl (ih _ _ hm)
def mX12_ends_18  (I : Nat → Nat → Int32) : Option ((Nat → Nat → Int32)) := (mX12_ends_31 xf (xu I 124 9 ((I 124 9) + (1 : Int32))) (0 : Int32))
set_option maxHeartbeats 400000 in
set_option maxRecDepth 100000 in
theorem kX12_ends_18 {E : xE} {B : Nat} {n : Nat} {K : Nat → Nat × Nat} {P : Nat → Nat → Nat} {I : Nat → Nat → Int32} {L : Nat → Nat → Int64}    {q : (Nat → Nat → Int32)} (d : Nat) (hd : 4 ≤ d) (G : GW K P)    (hm : mX12_ends_18 I = some q) : X E B d 0 0 yX12_ends cX12_ends 3 (none : Option Jvm.ClassFile.FieldType) (none, (n, K, P, q, L)) 18 [(0, .ref 123)] [] 0 0 (n, K, P, I, L) := by
  obtain ⟨d, rfl⟩ : ∃ d0, d = d0 + 1 := ⟨d - 1, by omega⟩
  unfold mX12_ends_18 at hm
  refine X_aload_n 0 dX12_ends_18 rfl rfl rfl ?_
  refine X_getPe fl_X12_9 (g_K123 G) rfl (g_P123_1 G) dX12_ends_19 ?_
  refine X_bipush (v := (9 : Int32)) dX12_ends_22 (by decide) ?_
  refine X_dup2 dX12_ends_24 rfl rfl ?_
  refine X_ialdJ (j := 9) (g_K124 G) rfl (by decide) dX12_ends_25 ?_
  refine X_iconst (v := (1 : Int32)) dX12_ends_26 (by decide) ?_
  refine X_iadd dX12_ends_27 ?_
  refine X_iastJ (j := 9) (g_K124 G) rfl (by decide) dX12_ends_28 ?_
  refine X_iconst (v := (0 : Int32)) dX12_ends_29 (by decide) ?_
  refine X_istore_n (lv' := [(1, .int (0 : Int32)), (0, .ref 123)]) dX12_ends_30 rfl (by decide) rfl ?_
  refine X_lv [1, 0] rfl (kX12_ends_31 _ hd G xf _ _  hm)
def mX12_ends  (I : Nat → Nat → Int32) : Option ((Nat → Nat → Int32)) := (Option.bind (mX12_rains I (I 124 9)) (fun q1 => (if q1 = 0 then (mX12_ends_18 I) else (Option.bind (mX12_washes I) (fun q19 => (mX12_ends_18 q19))))))
set_option maxHeartbeats 400000 in
set_option maxRecDepth 100000 in
theorem kX12_ends {E : xE} {B : Nat} {n : Nat} {K : Nat → Nat × Nat} {P : Nat → Nat → Nat} {I : Nat → Nat → Int32} {L : Nat → Nat → Int64}   {q : (Nat → Nat → Int32)} (d : Nat) (hd : 4 ≤ d) (G : GW K P)   (hm : mX12_ends I = some q) : MX E B d 0 0 yX12_ends cX12_ends 3 (none : Option Jvm.ClassFile.FieldType) [.ref 123] (n, K, P, I, L) (none, (n, K, P, q, L)) := by
  refine MX_of (lv := [(0, .ref 123)]) (by decide +kernel) (Nat.le_of_ble_eq_true rfl) rfl ?_
  obtain ⟨d, rfl⟩ : ∃ d0, d = d0 + 1 := ⟨d - 1, by omega⟩
  unfold mX12_ends at hm
  refine X_aload_n 0 dX12_ends_0 rfl rfl rfl ?_
  refine X_aload_n 0 dX12_ends_1 rfl rfl rfl ?_
  refine X_getPe fl_X12_9 (g_K123 G) rfl (g_P123_1 G) dX12_ends_2 ?_
  refine X_bipush (v := (9 : Int32)) dX12_ends_5 (by decide) ?_
  refine X_ialdJ (j := 9) (g_K124 G) rfl (by decide) dX12_ends_7 ?_
  obtain ⟨q1, e2, hm⟩ := ob hm
  refine X_cV1 (ci := 11) (kX12_rains d (by omega) G e2) ml_X12_432 mi_X12_rains rfl cf_11 (g_K123 G) rfl rfl (Nat.le_refl _) ⟨Nat.le_refl _, Nat.le_refl _⟩ (Nat.le_of_ble_eq_true rfl) dX12_ends_8 ?_
  refine X_if_eq (tgt := 18) dX12_ends_11 (by decide) (fun c3 => ?_) (fun c3 => ?_)
  · replace hm := ip c3 hm
    exact kX12_ends_18 _ hd G hm
  · replace hm := iq c3 hm
    refine X_aload_n 0 dX12_ends_14 rfl rfl rfl ?_
    obtain ⟨q19, e20, hm⟩ := ob hm
    refine X_cV0 (ci := 11) (kX12_washes d (by omega) G e20) ml_X12_451 mi_X12_washes rfl cf_11 (g_K123 G) rfl rfl (Nat.le_refl _) ⟨Nat.le_refl _, Nat.le_refl _⟩ (Nat.le_of_ble_eq_true rfl) dX12_ends_15 ?_
    exact kX12_ends_18 _ hd G hm
def mX12_goes_2   : Nat → (Nat → Nat → Int32) → (Nat → Nat → Int64) → Int32 → Int32 → Option ((Nat → Nat → Int32) × (Nat → Nat → Int64))
  | 0, _, _, _, _ => none
  | f + 1, I, L, a1, a2 => (if a1 ≤ a2 then (some (I, L)) else (Option.bind (mX12_paintsAll I L) (fun q2 => (Option.bind (mX12_ends q2.2.1) (fun q4 => (mX12_goes_2 f q4 q2.2.2 a1 (a2 + 1)))))))
set_option maxHeartbeats 400000 in
set_option maxRecDepth 100000 in
theorem kX12_goes_2 {E : xE} {B : Nat} {n : Nat} {K : Nat → Nat × Nat} {P : Nat → Nat → Nat}   {q : (Nat → Nat → Int32) × (Nat → Nat → Int64)} (d : Nat) (hd : 7 ≤ d) (G : GW K P)   : ∀ (f : Nat) (I : Nat → Nat → Int32) (L : Nat → Nat → Int64) (a1 : Int32) (a2 : Int32), mX12_goes_2 f I L a1 a2 = some q → X E B d 0 0 yX12_goes cX12_goes 3 (none : Option Jvm.ClassFile.FieldType) (none, (n, K, P, q.1, q.2)) 2 [(0, .ref 123), (1, .int a1), (2, .int a2)] [] 0 0 (n, K, P, I, L) := by
  obtain ⟨d, rfl⟩ : ∃ d0, d = d0 + 1 := ⟨d - 1, by omega⟩
  intro f
  induction f with
  | zero => intro _ _ _ _ hm; exact nomatch (show (none : Option ((Nat → Nat → Int32) × (Nat → Nat → Int64))) = some q from hm)
  | succ f ih =>
    intro I L a1 a2 hm
    rw [mX12_goes_2] at hm
    refine X_iload_n 2 dX12_goes_2 rfl rfl ?_
    refine X_iload_n 1 dX12_goes_3 rfl rfl ?_
    refine X_icmp_ge (tgt := 22) dX12_goes_4 (by decide) (fun c1 => ?_) (fun c1 => ?_)
    · replace hm := ip c1 hm
      replace hm := Option.some.inj hm
      subst hm
      exact X_vret dX12_goes_22 rfl
    · replace hm := iq c1 hm
      refine X_aload_n 0 dX12_goes_7 rfl rfl rfl ?_
      obtain ⟨q2, e3, hm⟩ := ob hm
      refine X_cV1 (ci := 11) (kX12_paintsAll d (by omega) G e3) ml_X12_454 mi_X12_paintsAll rfl cf_11 (g_K123 G) rfl rfl (Nat.le_refl _) ⟨Nat.le_refl _, Nat.le_refl _⟩ (Nat.le_of_ble_eq_true rfl) dX12_goes_8 ?_
      refine X_pop dX12_goes_11 rfl ?_
      refine X_aload_n 0 dX12_goes_12 rfl rfl rfl ?_
      obtain ⟨q4, e5, hm⟩ := ob hm
      refine X_cV0 (ci := 11) (kX12_ends d (by omega) G e5) ml_X12_457 mi_X12_ends rfl cf_11 (g_K123 G) rfl rfl (Nat.le_refl _) ⟨Nat.le_refl _, Nat.le_refl _⟩ (Nat.le_of_ble_eq_true rfl) dX12_goes_13 ?_
      refine X_iinc (lv' := [(2, .int (a2 + 1)), (0, .ref 123), (1, .int a1)]) 2 dX12_goes_16 rfl rfl (by decide) rfl ?_
      refine X_goto (tgt := 2) dX12_goes_19 (by decide) ?_
      exact X_lv [1, 2, 0] rfl (ih _ _ _ _ hm)
def mX12_goes  (I : Nat → Nat → Int32) (L : Nat → Nat → Int64) (a1 : Int32) : Option ((Nat → Nat → Int32) × (Nat → Nat → Int64)) := (mX12_goes_2 xf I L a1 (0 : Int32))
set_option maxHeartbeats 400000 in
set_option maxRecDepth 100000 in
theorem kX12_goes {E : xE} {B : Nat} {n : Nat} {K : Nat → Nat × Nat} {P : Nat → Nat → Nat} {I : Nat → Nat → Int32} {L : Nat → Nat → Int64}  {a1 : Int32} {q : (Nat → Nat → Int32) × (Nat → Nat → Int64)} (d : Nat) (hd : 7 ≤ d) (G : GW K P)   (hm : mX12_goes I L a1 = some q) : MX E B d 0 0 yX12_goes cX12_goes 3 (none : Option Jvm.ClassFile.FieldType) [.ref 123, .int a1] (n, K, P, I, L) (none, (n, K, P, q.1, q.2)) := by
  refine MX_of (lv := [(0, .ref 123), (1, .int a1)]) (by decide +kernel) (Nat.le_of_ble_eq_true rfl) rfl ?_
  obtain ⟨d, rfl⟩ : ∃ d0, d = d0 + 1 := ⟨d - 1, by omega⟩
  unfold mX12_goes at hm
  refine X_iconst (v := (0 : Int32)) dX12_goes_0 (by decide) ?_
  refine X_istore_n (lv' := [(2, .int (0 : Int32)), (0, .ref 123), (1, .int a1)]) dX12_goes_1 rfl (by decide) rfl ?_
  refine X_lv [1, 2, 0] rfl (kX12_goes_2 _ hd G xf _ _ _ _  hm)
def mX12_moves_20  (I : Nat → Nat → Int32) (t0 : Int32) : Option (Int32 × (Nat → Nat → Int32)) := (if inb (I 123 52) 3640 = true then (some (t0, (xu (xu I 162 (ix (I 123 52)) t0) 123 52 (((xu I 162 (ix (I 123 52)) t0) 123 52) + (1 : Int32))))) else none)
set_option maxHeartbeats 400000 in
set_option maxRecDepth 100000 in
theorem kX12_moves_20 {E : xE} {B : Nat} {n : Nat} {K : Nat → Nat × Nat} {P : Nat → Nat → Nat} {I : Nat → Nat → Int32} {L : Nat → Nat → Int64}   {t0 : Int32} {q : Int32 × (Nat → Nat → Int32)} (d : Nat) (hd : 0 ≤ d) (G : GW K P)    (hm : mX12_moves_20 I t0 = some q) : X E B d 0 0 yX12_moves cX12_moves 3 (some .int) (some (.int q.1), (n, K, P, q.2, L)) 20 [(0, .ref 123)] [.int t0] 0 0 (n, K, P, I, L) := by
  unfold mX12_moves_20 at hm
  refine X_istore_n (lv' := [(2, .int t0), (0, .ref 123)]) dX12_moves_20 rfl (by decide) rfl ?_
  refine X_aload_n 1 dX12_moves_21 rfl rfl rfl ?_
  refine X_getPe fl_X12_130 (g_K123 G) rfl (g_P123_49 G) dX12_moves_22 ?_
  refine X_aload_n 1 dX12_moves_25 rfl rfl rfl ?_
  refine X_getI fl_X12_464 (g_K123 G) rfl dX12_moves_26 ?_
  refine X_iload_n 0 dX12_moves_29 rfl rfl ?_
  obtain ⟨g2, hm⟩ := og hm
  refine X_iastJ (g_K162 G) g2 rfl dX12_moves_30 ?_
  refine X_aload_n 1 dX12_moves_31 rfl rfl rfl ?_
  refine X_dup dX12_moves_32 rfl ?_
  refine X_getI fl_X12_464 (g_K123 G) rfl dX12_moves_33 ?_
  refine X_iconst (v := (1 : Int32)) dX12_moves_36 (by decide) ?_
  refine X_iadd dX12_moves_37 ?_
  refine X_putI fl_X12_464 (g_K123 G) rfl rfl dX12_moves_38 ?_
  refine X_iload_n 0 dX12_moves_41 rfl rfl ?_
  replace hm := Option.some.inj hm
  subst hm
  exact X_iret dX12_moves_42 rfl
def mX12_moves  (I : Nat → Nat → Int32) (a1 : Int32) : Option (Int32 × (Nat → Nat → Int32)) := (if (I 123 53) = 0 then (mX12_moves_20 I a1) else (if inb (I 123 52) 3640 = true then (mX12_moves_20 I (I 162 (ix (I 123 52)))) else none))
set_option maxHeartbeats 400000 in
set_option maxRecDepth 100000 in
theorem kX12_moves {E : xE} {B : Nat} {n : Nat} {K : Nat → Nat × Nat} {P : Nat → Nat → Nat} {I : Nat → Nat → Int32} {L : Nat → Nat → Int64}  {a1 : Int32} {q : Int32 × (Nat → Nat → Int32)} (d : Nat) (hd : 0 ≤ d) (G : GW K P)   (hm : mX12_moves I a1 = some q) : MX E B d 0 0 yX12_moves cX12_moves 3 (some .int) [.ref 123, .int a1] (n, K, P, I, L) (some (.int q.1), (n, K, P, q.2, L)) := by
  refine MX_of (lv := [(0, .ref 123), (1, .int a1)]) (by decide +kernel) (Nat.le_of_ble_eq_true rfl) rfl ?_
  unfold mX12_moves at hm
  refine X_aload_n 0 dX12_moves_0 rfl rfl rfl ?_
  refine X_getI fl_X12_460 (g_K123 G) rfl dX12_moves_1 ?_
  refine X_if_eq (tgt := 19) dX12_moves_4 (by decide) (fun c1 => ?_) (fun c1 => ?_)
  · replace hm := ip c1 hm
    refine X_iload_n 1 dX12_moves_19 rfl rfl ?_
    exact X_lv [0] rfl (kX12_moves_20 _ hd G hm)
  · replace hm := iq c1 hm
    refine X_aload_n 0 dX12_moves_7 rfl rfl rfl ?_
    refine X_getPe fl_X12_130 (g_K123 G) rfl (g_P123_49 G) dX12_moves_8 ?_
    refine X_aload_n 0 dX12_moves_11 rfl rfl rfl ?_
    refine X_getI fl_X12_464 (g_K123 G) rfl dX12_moves_12 ?_
    obtain ⟨g3, hm⟩ := og hm
    refine X_ialdJ (g_K162 G) g3 rfl dX12_moves_15 ?_
    refine X_goto (tgt := 20) dX12_moves_16 (by decide) ?_
    exact X_lv [0] rfl (kX12_moves_20 _ hd G hm)
def mX12_movesRow_2   : Nat → (Nat → Nat → Int32) → Nat → Nat → Int32 → Option ((Nat → Nat → Int32))
  | 0, _, _, _, _ => none
  | f + 1, I, a1, z1, a2 => (if (nI z1) ≤ a2 then (some I) else (if inb a2 z1 = true then (Option.bind (mX12_moves I (I a1 (ix a2))) (fun q3 => (if inb a2 z1 = true then (mX12_movesRow_2 f (xu q3.2 a1 (ix a2) q3.1) a1 z1 (a2 + 1)) else none))) else none))
set_option maxHeartbeats 400000 in
set_option maxRecDepth 100000 in
theorem kX12_movesRow_2 {E : xE} {B : Nat} {n : Nat} {K : Nat → Nat × Nat} {P : Nat → Nat → Nat} {L : Nat → Nat → Int64}   {q : (Nat → Nat → Int32)} (d : Nat) (hd : 1 ≤ d) (G : GW K P)   : ∀ (f : Nat) (I : Nat → Nat → Int32) (a1 : Nat) (z1 : Nat) (a2 : Int32), K a1 = (20, z1) → mX12_movesRow_2 f I a1 z1 a2 = some q → X E B d 0 0 yX12_movesRow cX12_movesRow 3 (none : Option Jvm.ClassFile.FieldType) (none, (n, K, P, q, L)) 2 [(0, .ref 123), (1, .ref a1), (2, .int a2)] [] 0 0 (n, K, P, I, L) := by
  obtain ⟨d, rfl⟩ : ∃ d0, d = d0 + 1 := ⟨d - 1, by omega⟩
  intro f
  induction f with
  | zero => intro _ _ _ _ _ hm; exact nomatch (show (none : Option ((Nat → Nat → Int32))) = some q from hm)
  | succ f ih =>
    intro I a1 z1 a2 h1 hm
    rw [mX12_movesRow_2] at hm
    refine X_iload_n 2 dX12_movesRow_2 rfl rfl ?_
    refine X_aload_n 1 dX12_movesRow_3 rfl rfl rfl ?_
    refine X_alen h1 (by decide) (by decide) dX12_movesRow_4 ?_
    refine X_icmp_ge (tgt := 24) dX12_movesRow_5 (by decide) (fun c1 => ?_) (fun c1 => ?_)
    · replace hm := ip c1 hm
      replace hm := Option.some.inj hm
      subst hm
      exact X_vret dX12_movesRow_24 rfl
    · replace hm := iq c1 hm
      refine X_aload_n 1 dX12_movesRow_8 rfl rfl rfl ?_
      refine X_iload_n 2 dX12_movesRow_9 rfl rfl ?_
      refine X_aload_n 0 dX12_movesRow_10 rfl rfl rfl ?_
      refine X_aload_n 1 dX12_movesRow_11 rfl rfl rfl ?_
      refine X_iload_n 2 dX12_movesRow_12 rfl rfl ?_
      obtain ⟨g2, hm⟩ := og hm
      refine X_ialdJ h1 g2 rfl dX12_movesRow_13 ?_
      obtain ⟨q3, e4, hm⟩ := ob hm
      refine X_cV1 (ci := 11) (kX12_moves d (by omega) G e4) ml_X12_467 mi_X12_moves rfl cf_11 (g_K123 G) rfl rfl (Nat.le_refl _) ⟨Nat.le_refl _, Nat.le_refl _⟩ (Nat.le_of_ble_eq_true rfl) dX12_movesRow_14 ?_
      obtain ⟨g5, hm⟩ := og hm
      refine X_iastJ h1 g5 rfl dX12_movesRow_17 ?_
      refine X_iinc (lv' := [(2, .int (a2 + 1)), (0, .ref 123), (1, .ref a1)]) 2 dX12_movesRow_18 rfl rfl (by decide) rfl ?_
      refine X_goto (tgt := 2) dX12_movesRow_21 (by decide) ?_
      exact X_lv [1, 2, 0] rfl (ih _ _ _ _ h1 hm)
def mX12_movesRow  (I : Nat → Nat → Int32) (a1 : Nat) (z1 : Nat) : Option ((Nat → Nat → Int32)) := (mX12_movesRow_2 xf I a1 z1 (0 : Int32))
set_option maxHeartbeats 400000 in
set_option maxRecDepth 100000 in
theorem kX12_movesRow {E : xE} {B : Nat} {n : Nat} {K : Nat → Nat × Nat} {P : Nat → Nat → Nat} {I : Nat → Nat → Int32} {L : Nat → Nat → Int64}  {a1 : Nat} {z1 : Nat} {q : (Nat → Nat → Int32)} (d : Nat) (hd : 1 ≤ d) (G : GW K P)  (h1 : K a1 = (20, z1)) (hm : mX12_movesRow I a1 z1 = some q) : MX E B d 0 0 yX12_movesRow cX12_movesRow 3 (none : Option Jvm.ClassFile.FieldType) [.ref 123, .ref a1] (n, K, P, I, L) (none, (n, K, P, q, L)) := by
  refine MX_of (lv := [(0, .ref 123), (1, .ref a1)]) (by decide +kernel) (Nat.le_of_ble_eq_true rfl) rfl ?_
  obtain ⟨d, rfl⟩ : ∃ d0, d = d0 + 1 := ⟨d - 1, by omega⟩
  unfold mX12_movesRow at hm
  refine X_iconst (v := (0 : Int32)) dX12_movesRow_0 (by decide) ?_
  refine X_istore_n (lv' := [(2, .int (0 : Int32)), (0, .ref 123), (1, .ref a1)]) dX12_movesRow_1 rfl (by decide) rfl ?_
  refine X_lv [1, 2, 0] rfl (kX12_movesRow_2 _ hd G xf _ _ _ _ h1 hm)
def mX12_movesAll  (I : Nat → Nat → Int32) (a1 : Int32) (a2 : Int32) : Option ((Nat → Nat → Int32)) := (if a2 = 0 ∨ a2 = 1 then (Option.bind (mX12_moves (xu (xu I 123 52 ((182 : Int32) * a1)) 123 53 a2) ((xu (xu I 123 52 ((182 : Int32) * a1)) 123 53 a2) 124 8)) (fun q1 => (Option.bind (mX12_moves (xu q1.2 124 8 q1.1) ((xu q1.2 124 8 q1.1) 124 9)) (fun q3 => (Option.bind (mX12_movesRow (xu q3.2 124 9 q3.1) 128 4) (fun q5 => (Option.bind (mX12_movesRow q5 131 16) (fun q7 => (Option.bind (mX12_movesRow q7 132 80) (fun q9 => (Option.bind (mX12_movesRow q9 133 80) (fun q11 => (some q11))))))))))))) else none)
set_option maxHeartbeats 400000 in
set_option maxRecDepth 100000 in
theorem kX12_movesAll {E : xE} {B : Nat} {n : Nat} {K : Nat → Nat × Nat} {P : Nat → Nat → Nat} {I : Nat → Nat → Int32} {L : Nat → Nat → Int64}  {a1 : Int32} {a2 : Int32} {q : (Nat → Nat → Int32)} (d : Nat) (hd : 2 ≤ d) (G : GW K P)   (hm : mX12_movesAll I a1 a2 = some q) : MX E B d 0 0 yX12_movesAll cX12_movesAll 3 (none : Option Jvm.ClassFile.FieldType) [.ref 123, .int a1, .int a2] (n, K, P, I, L) (none, (n, K, P, q, L)) := by
  refine MX_of (lv := [(0, .ref 123), (1, .int a1), (2, .int a2)]) (by decide +kernel) (Nat.le_of_ble_eq_true rfl) rfl ?_
  obtain ⟨d, rfl⟩ : ∃ d0, d = d0 + 1 := ⟨d - 1, by omega⟩
  unfold mX12_movesAll at hm
  refine X_aload_n 0 dX12_movesAll_0 rfl rfl rfl ?_
  refine X_sipush (v := (182 : Int32)) dX12_movesAll_1 (by decide) ?_
  refine X_iload_n 1 dX12_movesAll_4 rfl rfl ?_
  refine X_imul dX12_movesAll_5 ?_
  refine X_putI fl_X12_464 (g_K123 G) rfl rfl dX12_movesAll_6 ?_
  refine X_aload_n 0 dX12_movesAll_9 rfl rfl rfl ?_
  refine X_iload_n 2 dX12_movesAll_10 rfl rfl ?_
  obtain ⟨g13, hm⟩ := og hm
  refine X_putZ fl_X12_460 (g_K123 G) rfl g13 rfl dX12_movesAll_11 ?_
  refine X_aload_n 0 dX12_movesAll_14 rfl rfl rfl ?_
  refine X_getPe fl_X12_9 (g_K123 G) rfl (g_P123_1 G) dX12_movesAll_15 ?_
  refine X_bipush (v := (8 : Int32)) dX12_movesAll_18 (by decide) ?_
  refine X_aload_n 0 dX12_movesAll_20 rfl rfl rfl ?_
  refine X_aload_n 0 dX12_movesAll_21 rfl rfl rfl ?_
  refine X_getPe fl_X12_9 (g_K123 G) rfl (g_P123_1 G) dX12_movesAll_22 ?_
  refine X_bipush (v := (8 : Int32)) dX12_movesAll_25 (by decide) ?_
  refine X_ialdJ (j := 8) (g_K124 G) rfl (by decide) dX12_movesAll_27 ?_
  obtain ⟨q1, e2, hm⟩ := ob hm
  refine X_cV1 (ci := 11) (kX12_moves d (by omega) G e2) ml_X12_467 mi_X12_moves rfl cf_11 (g_K123 G) rfl rfl (Nat.le_refl _) ⟨Nat.le_refl _, Nat.le_refl _⟩ (Nat.le_of_ble_eq_true rfl) dX12_movesAll_28 ?_
  refine X_iastJ (j := 8) (g_K124 G) rfl (by decide) dX12_movesAll_31 ?_
  refine X_aload_n 0 dX12_movesAll_32 rfl rfl rfl ?_
  refine X_getPe fl_X12_9 (g_K123 G) rfl (g_P123_1 G) dX12_movesAll_33 ?_
  refine X_bipush (v := (9 : Int32)) dX12_movesAll_36 (by decide) ?_
  refine X_aload_n 0 dX12_movesAll_38 rfl rfl rfl ?_
  refine X_aload_n 0 dX12_movesAll_39 rfl rfl rfl ?_
  refine X_getPe fl_X12_9 (g_K123 G) rfl (g_P123_1 G) dX12_movesAll_40 ?_
  refine X_bipush (v := (9 : Int32)) dX12_movesAll_43 (by decide) ?_
  refine X_ialdJ (j := 9) (g_K124 G) rfl (by decide) dX12_movesAll_45 ?_
  obtain ⟨q3, e4, hm⟩ := ob hm
  refine X_cV1 (ci := 11) (kX12_moves d (by omega) G e4) ml_X12_467 mi_X12_moves rfl cf_11 (g_K123 G) rfl rfl (Nat.le_refl _) ⟨Nat.le_refl _, Nat.le_refl _⟩ (Nat.le_of_ble_eq_true rfl) dX12_movesAll_46 ?_
  refine X_iastJ (j := 9) (g_K124 G) rfl (by decide) dX12_movesAll_49 ?_
  refine X_aload_n 0 dX12_movesAll_50 rfl rfl rfl ?_
  refine X_aload_n 0 dX12_movesAll_51 rfl rfl rfl ?_
  refine X_getPe fl_X12_22 (g_K123 G) rfl (g_P123_5 G) dX12_movesAll_52 ?_
  obtain ⟨q5, e6, hm⟩ := ob hm
  refine X_cV0 (ci := 11) (kX12_movesRow d (by omega) G (g_K128 G) e6) ml_X12_470 mi_X12_movesRow rfl cf_11 (g_K123 G) rfl rfl (Nat.le_refl _) ⟨Nat.le_refl _, Nat.le_refl _⟩ (Nat.le_of_ble_eq_true rfl) dX12_movesAll_55 ?_
  refine X_aload_n 0 dX12_movesAll_58 rfl rfl rfl ?_
  refine X_aload_n 0 dX12_movesAll_59 rfl rfl rfl ?_
  refine X_getPe fl_X12_31 (g_K123 G) rfl (g_P123_8 G) dX12_movesAll_60 ?_
  obtain ⟨q7, e8, hm⟩ := ob hm
  refine X_cV0 (ci := 11) (kX12_movesRow d (by omega) G (g_K131 G) e8) ml_X12_470 mi_X12_movesRow rfl cf_11 (g_K123 G) rfl rfl (Nat.le_refl _) ⟨Nat.le_refl _, Nat.le_refl _⟩ (Nat.le_of_ble_eq_true rfl) dX12_movesAll_63 ?_
  refine X_aload_n 0 dX12_movesAll_66 rfl rfl rfl ?_
  refine X_aload_n 0 dX12_movesAll_67 rfl rfl rfl ?_
  refine X_getPe fl_X12_34 (g_K123 G) rfl (g_P123_9 G) dX12_movesAll_68 ?_
  obtain ⟨q9, e10, hm⟩ := ob hm
  refine X_cV0 (ci := 11) (kX12_movesRow d (by omega) G (g_K132 G) e10) ml_X12_470 mi_X12_movesRow rfl cf_11 (g_K123 G) rfl rfl (Nat.le_refl _) ⟨Nat.le_refl _, Nat.le_refl _⟩ (Nat.le_of_ble_eq_true rfl) dX12_movesAll_71 ?_
  refine X_aload_n 0 dX12_movesAll_74 rfl rfl rfl ?_
  refine X_aload_n 0 dX12_movesAll_75 rfl rfl rfl ?_
  refine X_getPe fl_X12_37 (g_K123 G) rfl (g_P123_10 G) dX12_movesAll_76 ?_
  obtain ⟨q11, e12, hm⟩ := ob hm
  refine X_cV0 (ci := 11) (kX12_movesRow d (by omega) G (g_K133 G) e12) ml_X12_470 mi_X12_movesRow rfl cf_11 (g_K123 G) rfl rfl (Nat.le_refl _) ⟨Nat.le_refl _, Nat.le_refl _⟩ (Nat.le_of_ble_eq_true rfl) dX12_movesAll_79 ?_
  replace hm := Option.some.inj hm
  subst hm
  exact X_vret dX12_movesAll_82 rfl
def mX12_keepsAct_52  (I : Nat → Nat → Int32) : Option ((Nat → Nat → Int32)) := (Option.bind (mX12_movesAll I (I 123 51) (0 : Int32)) (fun q2 => (some (xu q2 123 51 ((q2 123 51) + (1 : Int32))))))
set_option maxHeartbeats 400000 in
set_option maxRecDepth 100000 in
theorem kX12_keepsAct_52 {E : xE} {B : Nat} {n : Nat} {K : Nat → Nat × Nat} {P : Nat → Nat → Nat} {I : Nat → Nat → Int32} {L : Nat → Nat → Int64}    {q : (Nat → Nat → Int32)} (d : Nat) (hd : 3 ≤ d) (G : GW K P)    (hm : mX12_keepsAct_52 I = some q) : X E B d 0 0 yX12_keepsAct cX12_keepsAct 2 (none : Option Jvm.ClassFile.FieldType) (none, (n, K, P, q, L)) 52 [(0, .ref 123)] [] 0 0 (n, K, P, I, L) := by
  obtain ⟨d, rfl⟩ : ∃ d0, d = d0 + 1 := ⟨d - 1, by omega⟩
  unfold mX12_keepsAct_52 at hm
  refine X_aload_n 0 dX12_keepsAct_52 rfl rfl rfl ?_
  refine X_aload_n 0 dX12_keepsAct_53 rfl rfl rfl ?_
  refine X_getI fl_X12_349 (g_K123 G) rfl dX12_keepsAct_54 ?_
  refine X_iconst (v := (0 : Int32)) dX12_keepsAct_57 (by decide) ?_
  obtain ⟨q2, e3, hm⟩ := ob hm
  refine X_cV0 (ci := 11) (kX12_movesAll d (by omega) G e3) ml_X12_474 mi_X12_movesAll rfl cf_11 (g_K123 G) rfl rfl (Nat.le_refl _) ⟨Nat.le_refl _, Nat.le_refl _⟩ (Nat.le_of_ble_eq_true rfl) dX12_keepsAct_58 ?_
  refine X_aload_n 0 dX12_keepsAct_61 rfl rfl rfl ?_
  refine X_dup dX12_keepsAct_62 rfl ?_
  refine X_getI fl_X12_349 (g_K123 G) rfl dX12_keepsAct_63 ?_
  refine X_iconst (v := (1 : Int32)) dX12_keepsAct_66 (by decide) ?_
  refine X_iadd dX12_keepsAct_67 ?_
  refine X_putI fl_X12_349 (g_K123 G) rfl rfl dX12_keepsAct_68 ?_
  replace hm := Option.some.inj hm
  subst hm
  exact X_vret dX12_keepsAct_71 rfl
def mX12_keepsAct_13  (e42 : (Nat → Nat → Int32) → Option ((Nat → Nat → Int32))) : Nat → (Nat → Nat → Int32) → Int32 → Option ((Nat → Nat → Int32))
  | 0, _, _ => none
  | f + 1, I, a1 => (if (3640 : Int32) ≤ a1 then (e42 I) else (if inb a1 3640 = true then (if inb (a1 - (182 : Int32)) 3640 = true then (mX12_keepsAct_13 e42 f (xu I 162 (ix (a1 - (182 : Int32))) (I 162 (ix a1))) (a1 + 1)) else none) else none))
set_option maxHeartbeats 400000 in
set_option maxRecDepth 100000 in
theorem kX12_keepsAct_13 {E : xE} {B : Nat} {n : Nat} {K : Nat → Nat × Nat} {P : Nat → Nat → Nat} {L : Nat → Nat → Int64}  {e42 : (Nat → Nat → Int32) → Option ((Nat → Nat → Int32))} {q : (Nat → Nat → Int32)} (d : Nat) (hd : 3 ≤ d) (G : GW K P)  (he42 : ∀ (I : Nat → Nat → Int32), e42 I = some q → X E B d 0 0 yX12_keepsAct cX12_keepsAct 2 (none : Option Jvm.ClassFile.FieldType) (none, (n, K, P, q, L)) 42 [(0, .ref 123)] [] 0 0 (n, K, P, I, L)) : ∀ (f : Nat) (I : Nat → Nat → Int32) (a1 : Int32), mX12_keepsAct_13 e42 f I a1 = some q → X E B d 0 0 yX12_keepsAct cX12_keepsAct 2 (none : Option Jvm.ClassFile.FieldType) (none, (n, K, P, q, L)) 13 [(0, .ref 123), (1, .int a1)] [] 0 0 (n, K, P, I, L) := by
  obtain ⟨d, rfl⟩ : ∃ d0, d = d0 + 1 := ⟨d - 1, by omega⟩
  intro f
  induction f with
  | zero => intro _ _ hm; exact nomatch (show (none : Option ((Nat → Nat → Int32))) = some q from hm)
  | succ f ih =>
    intro I a1 hm
    rw [mX12_keepsAct_13] at hm
    refine X_iload_n 1 dX12_keepsAct_13 rfl rfl ?_
    refine X_sipush (v := (3640 : Int32)) dX12_keepsAct_14 (by decide) ?_
    refine X_icmp_ge (tgt := 42) dX12_keepsAct_17 (by decide) (fun c4 => ?_) (fun c4 => ?_)
    · replace hm := ip c4 hm
      exact X_lv [0] rfl (he42 _ hm)
    · replace hm := iq c4 hm
      refine X_aload_n 0 dX12_keepsAct_20 rfl rfl rfl ?_
      refine X_getPe fl_X12_130 (g_K123 G) rfl (g_P123_49 G) dX12_keepsAct_21 ?_
      refine X_iload_n 1 dX12_keepsAct_24 rfl rfl ?_
      refine X_sipush (v := (182 : Int32)) dX12_keepsAct_25 (by decide) ?_
      refine X_isub dX12_keepsAct_28 ?_
      refine X_aload_n 0 dX12_keepsAct_29 rfl rfl rfl ?_
      refine X_getPe fl_X12_130 (g_K123 G) rfl (g_P123_49 G) dX12_keepsAct_30 ?_
      refine X_iload_n 1 dX12_keepsAct_33 rfl rfl ?_
      obtain ⟨g5, hm⟩ := og hm
      refine X_ialdJ (g_K162 G) g5 rfl dX12_keepsAct_34 ?_
      obtain ⟨g6, hm⟩ := og hm
      refine X_iastJ (g_K162 G) g6 rfl dX12_keepsAct_35 ?_
      refine X_iinc (lv' := [(1, .int (a1 + 1)), (0, .ref 123)]) 1 dX12_keepsAct_36 rfl rfl (by decide) rfl ?_
      refine X_goto (tgt := 13) dX12_keepsAct_39 (by decide) ?_
      exact X_lv [1, 0] rfl (ih _ _ hm)
def mX12_keepsAct  (I : Nat → Nat → Int32) : Option ((Nat → Nat → Int32)) := (if (I 123 51) = (20 : Int32) then (mX12_keepsAct_13 (fun (I_7 : (Nat → Nat → Int32)) => (mX12_keepsAct_52 (xu I_7 123 51 ((I_7 123 51) - (1 : Int32))))) xf I (182 : Int32)) else (mX12_keepsAct_52 I))
set_option maxHeartbeats 400000 in
set_option maxRecDepth 100000 in
theorem kX12_keepsAct {E : xE} {B : Nat} {n : Nat} {K : Nat → Nat × Nat} {P : Nat → Nat → Nat} {I : Nat → Nat → Int32} {L : Nat → Nat → Int64}   {q : (Nat → Nat → Int32)} (d : Nat) (hd : 3 ≤ d) (G : GW K P)   (hm : mX12_keepsAct I = some q) : MX E B d 0 0 yX12_keepsAct cX12_keepsAct 2 (none : Option Jvm.ClassFile.FieldType) [.ref 123] (n, K, P, I, L) (none, (n, K, P, q, L)) := by
  refine MX_of (lv := [(0, .ref 123)]) (by decide +kernel) (Nat.le_of_ble_eq_true rfl) rfl ?_
  obtain ⟨d, rfl⟩ : ∃ d0, d = d0 + 1 := ⟨d - 1, by omega⟩
  unfold mX12_keepsAct at hm
  refine X_aload_n 0 dX12_keepsAct_0 rfl rfl rfl ?_
  refine X_getI fl_X12_349 (g_K123 G) rfl dX12_keepsAct_1 ?_
  refine X_bipush (v := (20 : Int32)) dX12_keepsAct_4 (by decide) ?_
  refine X_icmp_ne (tgt := 52) dX12_keepsAct_6 (by decide) (fun c1 => ?_) (fun c1 => ?_)
  · replace hm := iq c1 hm
    exact kX12_keepsAct_52 _ hd G hm
  · replace hm := ip c1 hm
    refine X_sipush (v := (182 : Int32)) dX12_keepsAct_9 (by decide) ?_
    refine X_istore_n (lv' := [(1, .int (182 : Int32)), (0, .ref 123)]) dX12_keepsAct_12 rfl (by decide) rfl ?_
    refine X_lv [1, 0] rfl (kX12_keepsAct_13 _ hd G (fun I_7 hm => ?_) xf _ _  hm)
    refine X_aload_n 0 dX12_keepsAct_42 rfl rfl rfl ?_
    refine X_dup dX12_keepsAct_43 rfl ?_
    refine X_getI fl_X12_349 (g_K123 G) rfl dX12_keepsAct_44 ?_
    refine X_iconst (v := (1 : Int32)) dX12_keepsAct_47 (by decide) ?_
    refine X_isub dX12_keepsAct_48 ?_
    refine X_putI fl_X12_349 (g_K123 G) rfl rfl dX12_keepsAct_49 ?_
    exact kX12_keepsAct_52 _ hd G hm
def mX12_undo  (I : Nat → Nat → Int32) : Option (Int32 × (Nat → Nat → Int32)) := (if (I 123 51) = 0 then (some ((-2 : Int32), I)) else (Option.bind (mX12_movesAll (xu I 123 51 ((I 123 51) - (1 : Int32))) ((xu I 123 51 ((I 123 51) - (1 : Int32))) 123 51) (1 : Int32)) (fun q2 => (some ((q2 123 51), q2)))))
set_option maxHeartbeats 400000 in
set_option maxRecDepth 100000 in
theorem kX12_undo {E : xE} {B : Nat} {n : Nat} {K : Nat → Nat × Nat} {P : Nat → Nat → Nat} {I : Nat → Nat → Int32} {L : Nat → Nat → Int64}   {q : Int32 × (Nat → Nat → Int32)} (d : Nat) (hd : 3 ≤ d) (G : GW K P)   (hm : mX12_undo I = some q) : MX E B d 0 0 yX12_undo cX12_undo 1 (some .int) [.ref 123] (n, K, P, I, L) (some (.int q.1), (n, K, P, q.2, L)) := by
  refine MX_of (lv := [(0, .ref 123)]) (by decide +kernel) (Nat.le_of_ble_eq_true rfl) rfl ?_
  obtain ⟨d, rfl⟩ : ∃ d0, d = d0 + 1 := ⟨d - 1, by omega⟩
  unfold mX12_undo at hm
  refine X_aload_n 0 dX12_undo_0 rfl rfl rfl ?_
  refine X_getI fl_X12_349 (g_K123 G) rfl dX12_undo_1 ?_
  refine X_if_ne (tgt := 10) dX12_undo_4 (by decide) (fun c1 => ?_) (fun c1 => ?_)
  · replace hm := iq c1 hm
    refine X_aload_n 0 dX12_undo_10 rfl rfl rfl ?_
    refine X_dup dX12_undo_11 rfl ?_
    refine X_getI fl_X12_349 (g_K123 G) rfl dX12_undo_12 ?_
    refine X_iconst (v := (1 : Int32)) dX12_undo_15 (by decide) ?_
    refine X_isub dX12_undo_16 ?_
    refine X_putI fl_X12_349 (g_K123 G) rfl rfl dX12_undo_17 ?_
    refine X_aload_n 0 dX12_undo_20 rfl rfl rfl ?_
    refine X_aload_n 0 dX12_undo_21 rfl rfl rfl ?_
    refine X_getI fl_X12_349 (g_K123 G) rfl dX12_undo_22 ?_
    refine X_iconst (v := (1 : Int32)) dX12_undo_25 (by decide) ?_
    obtain ⟨q2, e3, hm⟩ := ob hm
    refine X_cV0 (ci := 11) (kX12_movesAll d (by omega) G e3) ml_X12_474 mi_X12_movesAll rfl cf_11 (g_K123 G) rfl rfl (Nat.le_refl _) ⟨Nat.le_refl _, Nat.le_refl _⟩ (Nat.le_of_ble_eq_true rfl) dX12_undo_26 ?_
    refine X_aload_n 0 dX12_undo_29 rfl rfl rfl ?_
    refine X_getI fl_X12_349 (g_K123 G) rfl dX12_undo_30 ?_
    replace hm := Option.some.inj hm
    subst hm
    exact X_iret dX12_undo_33 rfl
  · replace hm := ip c1 hm
    refine X_bipush (v := (-2 : Int32)) dX12_undo_7 (by decide) ?_
    replace hm := Option.some.inj hm
    subst hm
    exact X_iret dX12_undo_9 rfl
def mX12_hour  (I : Nat → Nat → Int32) (L : Nat → Nat → Int64) : Option (Int32 × (Nat → Nat → Int32) × (Nat → Nat → Int64)) := (Option.bind (mX12_isStreet I) (fun q1 => (if q1 = 0 then (some ((-1 : Int32), I, L)) else (if (I 124 9) = (999 : Int32) then (some ((-1 : Int32), I, L)) else (Option.bind (mX12_keepsAct I) (fun q5 => (Option.bind (mX12_paintsAll q5 L) (fun q7 => (Option.bind (mX12_ends q7.2.1) (fun q9 => (some (q7.1, q9, q7.2.2))))))))))))
set_option maxHeartbeats 400000 in
set_option maxRecDepth 100000 in
theorem kX12_hour {E : xE} {B : Nat} {n : Nat} {K : Nat → Nat × Nat} {P : Nat → Nat → Nat} {I : Nat → Nat → Int32} {L : Nat → Nat → Int64}   {q : Int32 × (Nat → Nat → Int32) × (Nat → Nat → Int64)} (d : Nat) (hd : 7 ≤ d) (G : GW K P)   (hm : mX12_hour I L = some q) : MX E B d 0 0 yX12_hour cX12_hour 2 (some .int) [.ref 123] (n, K, P, I, L) (some (.int q.1), (n, K, P, q.2.1, q.2.2)) := by
  refine MX_of (lv := [(0, .ref 123)]) (by decide +kernel) (Nat.le_of_ble_eq_true rfl) rfl ?_
  obtain ⟨d, rfl⟩ : ∃ d0, d = d0 + 1 := ⟨d - 1, by omega⟩
  unfold mX12_hour at hm
  refine X_aload_n 0 dX12_hour_0 rfl rfl rfl ?_
  obtain ⟨q1, e2, hm⟩ := ob hm
  refine X_cV1 (ci := 11) (kX12_isStreet d (by omega) G e2) ml_X12_429 mi_X12_isStreet rfl cf_11 (g_K123 G) rfl rfl (Nat.le_refl _) ⟨Nat.le_refl _, Nat.le_refl _⟩ (Nat.le_of_ble_eq_true rfl) dX12_hour_1 ?_
  refine X_if_eq (tgt := 20) dX12_hour_4 (by decide) (fun c3 => ?_) (fun c3 => ?_)
  · replace hm := ip c3 hm
    refine X_iconst (v := (-1 : Int32)) dX12_hour_20 (by decide) ?_
    replace hm := Option.some.inj hm
    subst hm
    exact X_iret dX12_hour_21 rfl
  · replace hm := iq c3 hm
    refine X_aload_n 0 dX12_hour_7 rfl rfl rfl ?_
    refine X_getPe fl_X12_9 (g_K123 G) rfl (g_P123_1 G) dX12_hour_8 ?_
    refine X_bipush (v := (9 : Int32)) dX12_hour_11 (by decide) ?_
    refine X_ialdJ (j := 9) (g_K124 G) rfl (by decide) dX12_hour_13 ?_
    refine X_sipush (v := (999 : Int32)) dX12_hour_14 (by decide) ?_
    refine X_icmp_ne (tgt := 22) dX12_hour_17 (by decide) (fun c4 => ?_) (fun c4 => ?_)
    · replace hm := iq c4 hm
      refine X_aload_n 0 dX12_hour_22 rfl rfl rfl ?_
      obtain ⟨q5, e6, hm⟩ := ob hm
      refine X_cV0 (ci := 11) (kX12_keepsAct d (by omega) G e6) ml_X12_478 mi_X12_keepsAct rfl cf_11 (g_K123 G) rfl rfl (Nat.le_refl _) ⟨Nat.le_refl _, Nat.le_refl _⟩ (Nat.le_of_ble_eq_true rfl) dX12_hour_23 ?_
      refine X_aload_n 0 dX12_hour_26 rfl rfl rfl ?_
      obtain ⟨q7, e8, hm⟩ := ob hm
      refine X_cV1 (ci := 11) (kX12_paintsAll d (by omega) G e8) ml_X12_454 mi_X12_paintsAll rfl cf_11 (g_K123 G) rfl rfl (Nat.le_refl _) ⟨Nat.le_refl _, Nat.le_refl _⟩ (Nat.le_of_ble_eq_true rfl) dX12_hour_27 ?_
      refine X_istore_n (lv' := [(1, .int q7.1), (0, .ref 123)]) dX12_hour_30 rfl (by decide) rfl ?_
      refine X_aload_n 1 dX12_hour_31 rfl rfl rfl ?_
      obtain ⟨q9, e10, hm⟩ := ob hm
      refine X_cV0 (ci := 11) (kX12_ends d (by omega) G e10) ml_X12_457 mi_X12_ends rfl cf_11 (g_K123 G) rfl rfl (Nat.le_refl _) ⟨Nat.le_refl _, Nat.le_refl _⟩ (Nat.le_of_ble_eq_true rfl) dX12_hour_32 ?_
      refine X_iload_n 0 dX12_hour_35 rfl rfl ?_
      replace hm := Option.some.inj hm
      subst hm
      exact X_iret dX12_hour_36 rfl
    · replace hm := ip c4 hm
      refine X_iconst (v := (-1 : Int32)) dX12_hour_20 (by decide) ?_
      replace hm := Option.some.inj hm
      subst hm
      exact X_iret dX12_hour_21 rfl
def mX12_paint  (I : Nat → Nat → Int32) (a1 : Int32) (a2 : Int32) : Option (Int32 × (Nat → Nat → Int32)) := (Option.bind (mX12_isCell I a1) (fun q1 => (if q1 = 0 then (some ((-1 : Int32), I)) else (Option.bind (mX12_isPainter I a2) (fun q4 => (if q4 = 0 then (some ((-1 : Int32), I)) else (Option.bind (mX12_canPaint I a1 a2) (fun q7 => (if q7 = 0 then (some ((-1 : Int32), I)) else (Option.bind (mX12_keepsAct I) (fun q10 => (Option.bind (mX12_paints q10 a1 a2) (fun q12 => (if inb a2 4 = true then (if inb a2 4 = true then (if inb a1 16 = true then (some (((xu q12 128 (ix a2) ((q12 128 (ix a2)) - (q12 124 2))) 131 (ix a1)), (xu q12 128 (ix a2) ((q12 128 (ix a2)) - (q12 124 2))))) else none) else none) else none))))))))))))))
set_option maxHeartbeats 400000 in
set_option maxRecDepth 100000 in
theorem kX12_paint {E : xE} {B : Nat} {n : Nat} {K : Nat → Nat × Nat} {P : Nat → Nat → Nat} {I : Nat → Nat → Int32} {L : Nat → Nat → Int64}  {a1 : Int32} {a2 : Int32} {q : Int32 × (Nat → Nat → Int32)} (d : Nat) (hd : 4 ≤ d) (G : GW K P)   (hm : mX12_paint I a1 a2 = some q) : MX E B d 0 0 yX12_paint cX12_paint 3 (some .int) [.ref 123, .int a1, .int a2] (n, K, P, I, L) (some (.int q.1), (n, K, P, q.2, L)) := by
  refine MX_of (lv := [(0, .ref 123), (1, .int a1), (2, .int a2)]) (by decide +kernel) (Nat.le_of_ble_eq_true rfl) rfl ?_
  obtain ⟨d, rfl⟩ : ∃ d0, d = d0 + 1 := ⟨d - 1, by omega⟩
  unfold mX12_paint at hm
  refine X_aload_n 0 dX12_paint_0 rfl rfl rfl ?_
  refine X_iload_n 1 dX12_paint_1 rfl rfl ?_
  obtain ⟨q1, e2, hm⟩ := ob hm
  refine X_cV1 (ci := 11) (kX12_isCell d (by omega) G e2) ml_X12_405 mi_X12_isCell rfl cf_11 (g_K123 G) rfl rfl (Nat.le_refl _) ⟨Nat.le_refl _, Nat.le_refl _⟩ (Nat.le_of_ble_eq_true rfl) dX12_paint_2 ?_
  refine X_if_eq (tgt := 25) dX12_paint_5 (by decide) (fun c3 => ?_) (fun c3 => ?_)
  · replace hm := ip c3 hm
    refine X_iconst (v := (-1 : Int32)) dX12_paint_25 (by decide) ?_
    replace hm := Option.some.inj hm
    subst hm
    exact X_iret dX12_paint_26 rfl
  · replace hm := iq c3 hm
    refine X_aload_n 0 dX12_paint_8 rfl rfl rfl ?_
    refine X_iload_n 2 dX12_paint_9 rfl rfl ?_
    obtain ⟨q4, e5, hm⟩ := ob hm
    refine X_cV1 (ci := 11) (kX12_isPainter d (by omega) G e5) ml_X12_423 mi_X12_isPainter rfl cf_11 (g_K123 G) rfl rfl (Nat.le_refl _) ⟨Nat.le_refl _, Nat.le_refl _⟩ (Nat.le_of_ble_eq_true rfl) dX12_paint_10 ?_
    refine X_if_eq (tgt := 25) dX12_paint_13 (by decide) (fun c6 => ?_) (fun c6 => ?_)
    · replace hm := ip c6 hm
      refine X_iconst (v := (-1 : Int32)) dX12_paint_25 (by decide) ?_
      replace hm := Option.some.inj hm
      subst hm
      exact X_iret dX12_paint_26 rfl
    · replace hm := iq c6 hm
      refine X_aload_n 0 dX12_paint_16 rfl rfl rfl ?_
      refine X_iload_n 1 dX12_paint_17 rfl rfl ?_
      refine X_iload_n 2 dX12_paint_18 rfl rfl ?_
      obtain ⟨q7, e8, hm⟩ := ob hm
      refine X_cV1 (ci := 11) (kX12_canPaint d (by omega) G e8) ml_X12_435 mi_X12_canPaint rfl cf_11 (g_K123 G) rfl rfl (Nat.le_refl _) ⟨Nat.le_refl _, Nat.le_refl _⟩ (Nat.le_of_ble_eq_true rfl) dX12_paint_19 ?_
      refine X_if_ne (tgt := 27) dX12_paint_22 (by decide) (fun c9 => ?_) (fun c9 => ?_)
      · replace hm := iq c9 hm
        refine X_aload_n 0 dX12_paint_27 rfl rfl rfl ?_
        obtain ⟨q10, e11, hm⟩ := ob hm
        refine X_cV0 (ci := 11) (kX12_keepsAct d (by omega) G e11) ml_X12_478 mi_X12_keepsAct rfl cf_11 (g_K123 G) rfl rfl (Nat.le_refl _) ⟨Nat.le_refl _, Nat.le_refl _⟩ (Nat.le_of_ble_eq_true rfl) dX12_paint_28 ?_
        refine X_aload_n 0 dX12_paint_31 rfl rfl rfl ?_
        refine X_iload_n 1 dX12_paint_32 rfl rfl ?_
        refine X_iload_n 2 dX12_paint_33 rfl rfl ?_
        obtain ⟨q12, e13, hm⟩ := ob hm
        refine X_cV0 (ci := 11) (kX12_paints d (by omega) G e13) ml_X12_448 mi_X12_paints rfl cf_11 (g_K123 G) rfl rfl (Nat.le_refl _) ⟨Nat.le_refl _, Nat.le_refl _⟩ (Nat.le_of_ble_eq_true rfl) dX12_paint_34 ?_
        refine X_aload_n 0 dX12_paint_37 rfl rfl rfl ?_
        refine X_getPe fl_X12_22 (g_K123 G) rfl (g_P123_5 G) dX12_paint_38 ?_
        refine X_iload_n 2 dX12_paint_41 rfl rfl ?_
        refine X_dup2 dX12_paint_42 rfl rfl ?_
        obtain ⟨g14, hm⟩ := og hm
        refine X_ialdJ (g_K128 G) g14 rfl dX12_paint_43 ?_
        refine X_aload_n 0 dX12_paint_44 rfl rfl rfl ?_
        refine X_getPe fl_X12_9 (g_K123 G) rfl (g_P123_1 G) dX12_paint_45 ?_
        refine X_iconst (v := (2 : Int32)) dX12_paint_48 (by decide) ?_
        refine X_ialdJ (j := 2) (g_K124 G) rfl (by decide) dX12_paint_49 ?_
        refine X_isub dX12_paint_50 ?_
        obtain ⟨g15, hm⟩ := og hm
        refine X_iastJ (g_K128 G) g15 rfl dX12_paint_51 ?_
        refine X_aload_n 0 dX12_paint_52 rfl rfl rfl ?_
        refine X_getPe fl_X12_31 (g_K123 G) rfl (g_P123_8 G) dX12_paint_53 ?_
        refine X_iload_n 1 dX12_paint_56 rfl rfl ?_
        obtain ⟨g16, hm⟩ := og hm
        refine X_ialdJ (g_K131 G) g16 rfl dX12_paint_57 ?_
        replace hm := Option.some.inj hm
        subst hm
        exact X_iret dX12_paint_58 rfl
      · replace hm := ip c9 hm
        refine X_iconst (v := (-1 : Int32)) dX12_paint_25 (by decide) ?_
        replace hm := Option.some.inj hm
        subst hm
        exact X_iret dX12_paint_26 rfl
def mX12_scrape  (I : Nat → Nat → Int32) (a1 : Int32) : Option (Int32 × (Nat → Nat → Int32)) := (Option.bind (mX12_isCell I a1) (fun q1 => (if q1 = 0 then (some ((-1 : Int32), I)) else (if inb a1 16 = true then (if (I 131 (ix a1)) = 0 then (some ((-1 : Int32), I)) else (Option.bind (mX12_keepsAct I) (fun q6 => (Option.bind (mX12_topOf q6 a1) (fun q8 => (if inb a1 16 = true then (if inb a1 16 = true then (some (q8, (xu q6 131 (ix a1) ((q6 131 (ix a1)) - (1 : Int32))))) else none) else none)))))) else none))))
set_option maxHeartbeats 400000 in
set_option maxRecDepth 100000 in
theorem kX12_scrape {E : xE} {B : Nat} {n : Nat} {K : Nat → Nat × Nat} {P : Nat → Nat → Nat} {I : Nat → Nat → Int32} {L : Nat → Nat → Int64}  {a1 : Int32} {q : Int32 × (Nat → Nat → Int32)} (d : Nat) (hd : 4 ≤ d) (G : GW K P)   (hm : mX12_scrape I a1 = some q) : MX E B d 0 0 yX12_scrape cX12_scrape 3 (some .int) [.ref 123, .int a1] (n, K, P, I, L) (some (.int q.1), (n, K, P, q.2, L)) := by
  refine MX_of (lv := [(0, .ref 123), (1, .int a1)]) (by decide +kernel) (Nat.le_of_ble_eq_true rfl) rfl ?_
  obtain ⟨d, rfl⟩ : ∃ d0, d = d0 + 1 := ⟨d - 1, by omega⟩
  unfold mX12_scrape at hm
  refine X_aload_n 0 dX12_scrape_0 rfl rfl rfl ?_
  refine X_iload_n 1 dX12_scrape_1 rfl rfl ?_
  obtain ⟨q1, e2, hm⟩ := ob hm
  refine X_cV1 (ci := 11) (kX12_isCell d (by omega) G e2) ml_X12_405 mi_X12_isCell rfl cf_11 (g_K123 G) rfl rfl (Nat.le_refl _) ⟨Nat.le_refl _, Nat.le_refl _⟩ (Nat.le_of_ble_eq_true rfl) dX12_scrape_2 ?_
  refine X_if_eq (tgt := 17) dX12_scrape_5 (by decide) (fun c3 => ?_) (fun c3 => ?_)
  · replace hm := ip c3 hm
    refine X_iconst (v := (-1 : Int32)) dX12_scrape_17 (by decide) ?_
    replace hm := Option.some.inj hm
    subst hm
    exact X_iret dX12_scrape_18 rfl
  · replace hm := iq c3 hm
    refine X_aload_n 0 dX12_scrape_8 rfl rfl rfl ?_
    refine X_getPe fl_X12_31 (g_K123 G) rfl (g_P123_8 G) dX12_scrape_9 ?_
    refine X_iload_n 1 dX12_scrape_12 rfl rfl ?_
    obtain ⟨g4, hm⟩ := og hm
    refine X_ialdJ (g_K131 G) g4 rfl dX12_scrape_13 ?_
    refine X_if_ne (tgt := 19) dX12_scrape_14 (by decide) (fun c5 => ?_) (fun c5 => ?_)
    · replace hm := iq c5 hm
      refine X_aload_n 0 dX12_scrape_19 rfl rfl rfl ?_
      obtain ⟨q6, e7, hm⟩ := ob hm
      refine X_cV0 (ci := 11) (kX12_keepsAct d (by omega) G e7) ml_X12_478 mi_X12_keepsAct rfl cf_11 (g_K123 G) rfl rfl (Nat.le_refl _) ⟨Nat.le_refl _, Nat.le_refl _⟩ (Nat.le_of_ble_eq_true rfl) dX12_scrape_20 ?_
      refine X_aload_n 0 dX12_scrape_23 rfl rfl rfl ?_
      refine X_iload_n 1 dX12_scrape_24 rfl rfl ?_
      obtain ⟨q8, e9, hm⟩ := ob hm
      refine X_cV1 (ci := 11) (kX12_topOf d (by omega) G e9) ml_X12_411 mi_X12_topOf rfl cf_11 (g_K123 G) rfl rfl (Nat.le_refl _) ⟨Nat.le_refl _, Nat.le_refl _⟩ (Nat.le_of_ble_eq_true rfl) dX12_scrape_25 ?_
      refine X_istore_n (lv' := [(2, .int q8), (0, .ref 123), (1, .int a1)]) dX12_scrape_28 rfl (by decide) rfl ?_
      refine X_aload_n 1 dX12_scrape_29 rfl rfl rfl ?_
      refine X_getPe fl_X12_31 (g_K123 G) rfl (g_P123_8 G) dX12_scrape_30 ?_
      refine X_iload_n 2 dX12_scrape_33 rfl rfl ?_
      refine X_dup2 dX12_scrape_34 rfl rfl ?_
      obtain ⟨g10, hm⟩ := og hm
      refine X_ialdJ (g_K131 G) g10 rfl dX12_scrape_35 ?_
      refine X_iconst (v := (1 : Int32)) dX12_scrape_36 (by decide) ?_
      refine X_isub dX12_scrape_37 ?_
      obtain ⟨g11, hm⟩ := og hm
      refine X_iastJ (g_K131 G) g11 rfl dX12_scrape_38 ?_
      refine X_iload_n 0 dX12_scrape_39 rfl rfl ?_
      replace hm := Option.some.inj hm
      subst hm
      exact X_iret dX12_scrape_40 rfl
    · replace hm := ip c5 hm
      refine X_iconst (v := (-1 : Int32)) dX12_scrape_17 (by decide) ?_
      replace hm := Option.some.inj hm
      subst hm
      exact X_iret dX12_scrape_18 rfl
def mX12_vote  (I : Nat → Nat → Int32) (a1 : Int32) : Option (Int32 × (Nat → Nat → Int32)) := (Option.bind (mX12_isThing I a1) (fun q1 => (if q1 = 0 then (some ((-1 : Int32), I)) else (Option.bind (mX12_isBare I a1) (fun q4 => (if q4 = 0 then (Option.bind (mX12_keepsAct I) (fun q7 => (Option.bind (mX12_barely (xu q7 124 8 ((q7 124 8) ||| (xshl (1 : Int32) a1))) a1) (fun q9 => (some (q9.1, q9.2)))))) else (some ((-1 : Int32), I))))))))
set_option maxHeartbeats 400000 in
set_option maxRecDepth 100000 in
theorem kX12_vote {E : xE} {B : Nat} {n : Nat} {K : Nat → Nat × Nat} {P : Nat → Nat → Nat} {I : Nat → Nat → Int32} {L : Nat → Nat → Int64}  {a1 : Int32} {q : Int32 × (Nat → Nat → Int32)} (d : Nat) (hd : 4 ≤ d) (G : GW K P)   (hm : mX12_vote I a1 = some q) : MX E B d 0 0 yX12_vote cX12_vote 2 (some .int) [.ref 123, .int a1] (n, K, P, I, L) (some (.int q.1), (n, K, P, q.2, L)) := by
  refine MX_of (lv := [(0, .ref 123), (1, .int a1)]) (by decide +kernel) (Nat.le_of_ble_eq_true rfl) rfl ?_
  obtain ⟨d, rfl⟩ : ∃ d0, d = d0 + 1 := ⟨d - 1, by omega⟩
  unfold mX12_vote at hm
  refine X_aload_n 0 dX12_vote_0 rfl rfl rfl ?_
  refine X_iload_n 1 dX12_vote_1 rfl rfl ?_
  obtain ⟨q1, e2, hm⟩ := ob hm
  refine X_cV1 (ci := 11) (kX12_isThing d (by omega) G e2) ml_X12_417 mi_X12_isThing rfl cf_11 (g_K123 G) rfl rfl (Nat.le_refl _) ⟨Nat.le_refl _, Nat.le_refl _⟩ (Nat.le_of_ble_eq_true rfl) dX12_vote_2 ?_
  refine X_if_eq (tgt := 16) dX12_vote_5 (by decide) (fun c3 => ?_) (fun c3 => ?_)
  · replace hm := ip c3 hm
    refine X_iconst (v := (-1 : Int32)) dX12_vote_16 (by decide) ?_
    replace hm := Option.some.inj hm
    subst hm
    exact X_iret dX12_vote_17 rfl
  · replace hm := iq c3 hm
    refine X_aload_n 0 dX12_vote_8 rfl rfl rfl ?_
    refine X_iload_n 1 dX12_vote_9 rfl rfl ?_
    obtain ⟨q4, e5, hm⟩ := ob hm
    refine X_cV1 (ci := 11) (kX12_isBare d (by omega) G e5) ml_X12_336 mi_X12_isBare rfl cf_11 (g_K123 G) rfl rfl (Nat.le_refl _) ⟨Nat.le_refl _, Nat.le_refl _⟩ (Nat.le_of_ble_eq_true rfl) dX12_vote_10 ?_
    refine X_if_eq (tgt := 18) dX12_vote_13 (by decide) (fun c6 => ?_) (fun c6 => ?_)
    · replace hm := ip c6 hm
      refine X_aload_n 0 dX12_vote_18 rfl rfl rfl ?_
      obtain ⟨q7, e8, hm⟩ := ob hm
      refine X_cV0 (ci := 11) (kX12_keepsAct d (by omega) G e8) ml_X12_478 mi_X12_keepsAct rfl cf_11 (g_K123 G) rfl rfl (Nat.le_refl _) ⟨Nat.le_refl _, Nat.le_refl _⟩ (Nat.le_of_ble_eq_true rfl) dX12_vote_19 ?_
      refine X_aload_n 0 dX12_vote_22 rfl rfl rfl ?_
      refine X_getPe fl_X12_9 (g_K123 G) rfl (g_P123_1 G) dX12_vote_23 ?_
      refine X_bipush (v := (8 : Int32)) dX12_vote_26 (by decide) ?_
      refine X_dup2 dX12_vote_28 rfl rfl ?_
      refine X_ialdJ (j := 8) (g_K124 G) rfl (by decide) dX12_vote_29 ?_
      refine X_iconst (v := (1 : Int32)) dX12_vote_30 (by decide) ?_
      refine X_iload_n 1 dX12_vote_31 rfl rfl ?_
      refine X_ishl dX12_vote_32 ?_
      refine X_ior dX12_vote_33 ?_
      refine X_iastJ (j := 8) (g_K124 G) rfl (by decide) dX12_vote_34 ?_
      refine X_aload_n 0 dX12_vote_35 rfl rfl rfl ?_
      refine X_iload_n 1 dX12_vote_36 rfl rfl ?_
      obtain ⟨q9, e10, hm⟩ := ob hm
      refine X_cV1 (ci := 11) (kX12_barely d (by omega) G e10) ml_X12_340 mi_X12_barely rfl cf_11 (g_K123 G) rfl rfl (Nat.le_refl _) ⟨Nat.le_refl _, Nat.le_refl _⟩ (Nat.le_of_ble_eq_true rfl) dX12_vote_37 ?_
      replace hm := Option.some.inj hm
      subst hm
      exact X_iret dX12_vote_40 rfl
    · replace hm := iq c6 hm
      refine X_iconst (v := (-1 : Int32)) dX12_vote_16 (by decide) ?_
      replace hm := Option.some.inj hm
      subst hm
      exact X_iret dX12_vote_17 rfl
def mX12_carryRow_42 (b2 : (Nat → Nat → Int32) → Nat → Nat → Int32 → Option ((Nat → Nat → Int32))) (I : Nat → Nat → Int32) (a1 : Nat) (z1 : Nat) (a2 : Int32) : Option ((Nat → Nat → Int32)) := (b2 (xu I 123 63 ((I 123 63) + (1 : Int32))) a1 z1 (a2 + 1))
set_option maxHeartbeats 400000 in
set_option maxRecDepth 100000 in
theorem kX12_carryRow_42 {E : xE} {B : Nat} {n : Nat} {K : Nat → Nat × Nat} {P : Nat → Nat → Nat} {I : Nat → Nat → Int32} {L : Nat → Nat → Int64}  {b2 : (Nat → Nat → Int32) → Nat → Nat → Int32 → Option ((Nat → Nat → Int32))} {a1 : Nat} {z1 : Nat} {a2 : Int32} {q : (Nat → Nat → Int32)} (d : Nat) (hd : 0 ≤ d) (G : GW K P)  (hb2 : ∀ (I : Nat → Nat → Int32) (a1 : Nat) (z1 : Nat) (a2 : Int32), K a1 = (20, z1) → b2 I a1 z1 a2 = some q → X E B d 0 0 yX12_carryRow cX12_carryRow 3 (none : Option Jvm.ClassFile.FieldType) (none, (n, K, P, q, L)) 2 [(0, .ref 123), (1, .ref a1), (2, .int a2)] [] 0 0 (n, K, P, I, L)) (h1 : K a1 = (20, z1)) (hm : mX12_carryRow_42 b2 I a1 z1 a2 = some q) : X E B d 0 0 yX12_carryRow cX12_carryRow 3 (none : Option Jvm.ClassFile.FieldType) (none, (n, K, P, q, L)) 42 [(0, .ref 123), (1, .ref a1), (2, .int a2)] [] 0 0 (n, K, P, I, L) := by
  unfold mX12_carryRow_42 at hm
  refine X_aload_n 0 dX12_carryRow_42 rfl rfl rfl ?_
  refine X_dup dX12_carryRow_43 rfl ?_
  refine X_getI fl_X12_572 (g_K123 G) rfl dX12_carryRow_44 ?_
  refine X_iconst (v := (1 : Int32)) dX12_carryRow_47 (by decide) ?_
  refine X_iadd dX12_carryRow_48 ?_
  refine X_putI fl_X12_572 (g_K123 G) rfl rfl dX12_carryRow_49 ?_
  refine X_iinc (lv' := [(2, .int (a2 + 1)), (0, .ref 123), (1, .ref a1)]) 2 dX12_carryRow_52 rfl rfl (by decide) rfl ?_
  refine X_goto (tgt := 2) dX12_carryRow_55 (by decide) ?_
  exact X_lv [1, 2, 0] rfl (hb2 _ _ _ _ h1 hm)
def mX12_carryRow_2   : Nat → (Nat → Nat → Int32) → Nat → Nat → Int32 → Option ((Nat → Nat → Int32))
  | 0, _, _, _, _ => none
  | f + 1, I, a1, z1, a2 => (if (nI z1) ≤ a2 then (some I) else (if (I 123 64) = 0 then (if inb a2 z1 = true then (if inb (I 123 63) 20500 = true then (mX12_carryRow_42 (fun (I : Nat → Nat → Int32) (a1 : Nat) (z1 : Nat) (a2 : Int32) => mX12_carryRow_2  f I a1 z1 a2) (xu I 170 (ix (I 123 63)) (I a1 (ix a2))) a1 z1 a2) else none) else none) else (if inb (I 123 63) 20500 = true then (if inb a2 z1 = true then (mX12_carryRow_42 (fun (I : Nat → Nat → Int32) (a1 : Nat) (z1 : Nat) (a2 : Int32) => mX12_carryRow_2  f I a1 z1 a2) (xu I a1 (ix a2) (I 170 (ix (I 123 63)))) a1 z1 a2) else none) else none)))
set_option maxHeartbeats 400000 in
set_option maxRecDepth 100000 in
theorem kX12_carryRow_2 {E : xE} {B : Nat} {n : Nat} {K : Nat → Nat × Nat} {P : Nat → Nat → Nat} {L : Nat → Nat → Int64}   {q : (Nat → Nat → Int32)} (d : Nat) (hd : 0 ≤ d) (G : GW K P)   : ∀ (f : Nat) (I : Nat → Nat → Int32) (a1 : Nat) (z1 : Nat) (a2 : Int32), K a1 = (20, z1) → mX12_carryRow_2 f I a1 z1 a2 = some q → X E B d 0 0 yX12_carryRow cX12_carryRow 3 (none : Option Jvm.ClassFile.FieldType) (none, (n, K, P, q, L)) 2 [(0, .ref 123), (1, .ref a1), (2, .int a2)] [] 0 0 (n, K, P, I, L) := by
  intro f
  induction f with
  | zero => intro _ _ _ _ _ hm; exact nomatch (show (none : Option ((Nat → Nat → Int32))) = some q from hm)
  | succ f ih =>
    intro I a1 z1 a2 h1 hm
    rw [mX12_carryRow_2] at hm
    refine X_iload_n 2 dX12_carryRow_2 rfl rfl ?_
    refine X_aload_n 1 dX12_carryRow_3 rfl rfl rfl ?_
    refine X_alen h1 (by decide) (by decide) dX12_carryRow_4 ?_
    refine X_icmp_ge (tgt := 58) dX12_carryRow_5 (by decide) (fun c1 => ?_) (fun c1 => ?_)
    · replace hm := ip c1 hm
      replace hm := Option.some.inj hm
      subst hm
      exact X_vret dX12_carryRow_58 rfl
    · replace hm := iq c1 hm
      refine X_aload_n 0 dX12_carryRow_8 rfl rfl rfl ?_
      refine X_getI fl_X12_569 (g_K123 G) rfl dX12_carryRow_9 ?_
      refine X_if_eq (tgt := 30) dX12_carryRow_12 (by decide) (fun c2 => ?_) (fun c2 => ?_)
      · replace hm := ip c2 hm
        refine X_aload_n 0 dX12_carryRow_30 rfl rfl rfl ?_
        refine X_getPe fl_X12_154 (g_K123 G) rfl (g_P123_61 G) dX12_carryRow_31 ?_
        refine X_aload_n 0 dX12_carryRow_34 rfl rfl rfl ?_
        refine X_getI fl_X12_572 (g_K123 G) rfl dX12_carryRow_35 ?_
        refine X_aload_n 1 dX12_carryRow_38 rfl rfl rfl ?_
        refine X_iload_n 2 dX12_carryRow_39 rfl rfl ?_
        obtain ⟨g3, hm⟩ := og hm
        refine X_ialdJ h1 g3 rfl dX12_carryRow_40 ?_
        obtain ⟨g4, hm⟩ := og hm
        refine X_iastJ (g_K170 G) g4 rfl dX12_carryRow_41 ?_
        exact kX12_carryRow_42 _ hd G ih h1 hm
      · replace hm := iq c2 hm
        refine X_aload_n 1 dX12_carryRow_15 rfl rfl rfl ?_
        refine X_iload_n 2 dX12_carryRow_16 rfl rfl ?_
        refine X_aload_n 0 dX12_carryRow_17 rfl rfl rfl ?_
        refine X_getPe fl_X12_154 (g_K123 G) rfl (g_P123_61 G) dX12_carryRow_18 ?_
        refine X_aload_n 0 dX12_carryRow_21 rfl rfl rfl ?_
        refine X_getI fl_X12_572 (g_K123 G) rfl dX12_carryRow_22 ?_
        obtain ⟨g5, hm⟩ := og hm
        refine X_ialdJ (g_K170 G) g5 rfl dX12_carryRow_25 ?_
        obtain ⟨g6, hm⟩ := og hm
        refine X_iastJ h1 g6 rfl dX12_carryRow_26 ?_
        refine X_goto (tgt := 42) dX12_carryRow_27 (by decide) ?_
        exact kX12_carryRow_42 _ hd G ih h1 hm
def mX12_carryRow  (I : Nat → Nat → Int32) (a1 : Nat) (z1 : Nat) : Option ((Nat → Nat → Int32)) := (mX12_carryRow_2 xf I a1 z1 (0 : Int32))
set_option maxHeartbeats 400000 in
set_option maxRecDepth 100000 in
theorem kX12_carryRow {E : xE} {B : Nat} {n : Nat} {K : Nat → Nat × Nat} {P : Nat → Nat → Nat} {I : Nat → Nat → Int32} {L : Nat → Nat → Int64}  {a1 : Nat} {z1 : Nat} {q : (Nat → Nat → Int32)} (d : Nat) (hd : 0 ≤ d) (G : GW K P)  (h1 : K a1 = (20, z1)) (hm : mX12_carryRow I a1 z1 = some q) : MX E B d 0 0 yX12_carryRow cX12_carryRow 3 (none : Option Jvm.ClassFile.FieldType) [.ref 123, .ref a1] (n, K, P, I, L) (none, (n, K, P, q, L)) := by
  refine MX_of (lv := [(0, .ref 123), (1, .ref a1)]) (by decide +kernel) (Nat.le_of_ble_eq_true rfl) rfl ?_
  unfold mX12_carryRow at hm
  refine X_iconst (v := (0 : Int32)) dX12_carryRow_0 (by decide) ?_
  refine X_istore_n (lv' := [(2, .int (0 : Int32)), (0, .ref 123), (1, .ref a1)]) dX12_carryRow_1 rfl (by decide) rfl ?_
  refine X_lv [1, 2, 0] rfl (kX12_carryRow_2 _ hd G xf _ _ _ _ h1 hm)
def mX12_carriesAll  (I : Nat → Nat → Int32) (a1 : Int32) (a2 : Int32) : Option ((Nat → Nat → Int32)) := (if a2 = 0 ∨ a2 = 1 then (Option.bind (mX12_carryRow (xu (xu I 123 63 ((4100 : Int32) * a1)) 123 64 a2) 124 13) (fun q1 => (Option.bind (mX12_carryRow q1 128 4) (fun q3 => (Option.bind (mX12_carryRow q3 131 16) (fun q5 => (Option.bind (mX12_carryRow q5 132 80) (fun q7 => (Option.bind (mX12_carryRow q7 133 80) (fun q9 => (if a1 = (4 : Int32) then (some q9) else (Option.bind (mX12_carryRow (xu q9 163 0 (q9 123 51)) 163 1) (fun q12 => (Option.bind (mX12_carryRow (xu q12 123 51 (q12 163 0)) 125 5) (fun q14 => (Option.bind (mX12_carryRow q14 126 4) (fun q16 => (Option.bind (mX12_carryRow q16 127 4) (fun q18 => (Option.bind (mX12_carryRow q18 129 5) (fun q20 => (Option.bind (mX12_carryRow q20 130 5) (fun q22 => (Option.bind (mX12_carryRow q22 134 10) (fun q24 => (Option.bind (mX12_carryRow q24 135 10) (fun q26 => (Option.bind (mX12_carryRow q26 136 10) (fun q28 => (Option.bind (mX12_carryRow q28 137 16) (fun q30 => (Option.bind (mX12_carryRow q30 138 80) (fun q32 => (Option.bind (mX12_carryRow q32 139 4) (fun q34 => (Option.bind (mX12_carryRow q34 140 1) (fun q36 => (Option.bind (mX12_carryRow q36 162 3640) (fun q38 => (some q38)))))))))))))))))))))))))))))))))))))))) else none)
set_option maxHeartbeats 400000 in
set_option maxRecDepth 100000 in
theorem kX12_carriesAll {E : xE} {B : Nat} {n : Nat} {K : Nat → Nat × Nat} {P : Nat → Nat → Nat} {I : Nat → Nat → Int32} {L : Nat → Nat → Int64}  {a1 : Int32} {a2 : Int32} {q : (Nat → Nat → Int32)} (d : Nat) (hd : 1 ≤ d) (G : GW K P)   (hm : mX12_carriesAll I a1 a2 = some q) : MX E B d 0 0 yX12_carriesAll cX12_carriesAll 3 (none : Option Jvm.ClassFile.FieldType) [.ref 123, .int a1, .int a2] (n, K, P, I, L) (none, (n, K, P, q, L)) := by
  refine MX_of (lv := [(0, .ref 123), (1, .int a1), (2, .int a2)]) (by decide +kernel) (Nat.le_of_ble_eq_true rfl) rfl ?_
  obtain ⟨d, rfl⟩ : ∃ d0, d = d0 + 1 := ⟨d - 1, by omega⟩
  unfold mX12_carriesAll at hm
  refine X_aload_n 0 dX12_carriesAll_0 rfl rfl rfl ?_
  refine X_sipush (v := (4100 : Int32)) dX12_carriesAll_1 (by decide) ?_
  refine X_iload_n 1 dX12_carriesAll_4 rfl rfl ?_
  refine X_imul dX12_carriesAll_5 ?_
  refine X_putI fl_X12_572 (g_K123 G) rfl rfl dX12_carriesAll_6 ?_
  refine X_aload_n 0 dX12_carriesAll_9 rfl rfl rfl ?_
  refine X_iload_n 2 dX12_carriesAll_10 rfl rfl ?_
  obtain ⟨g40, hm⟩ := og hm
  refine X_putZ fl_X12_569 (g_K123 G) rfl g40 rfl dX12_carriesAll_11 ?_
  refine X_aload_n 0 dX12_carriesAll_14 rfl rfl rfl ?_
  refine X_aload_n 0 dX12_carriesAll_15 rfl rfl rfl ?_
  refine X_getPe fl_X12_9 (g_K123 G) rfl (g_P123_1 G) dX12_carriesAll_16 ?_
  obtain ⟨q1, e2, hm⟩ := ob hm
  refine X_cV0 (ci := 11) (kX12_carryRow d (by omega) G (g_K124 G) e2) ml_X12_575 mi_X12_carryRow rfl cf_11 (g_K123 G) rfl rfl (Nat.le_refl _) ⟨Nat.le_refl _, Nat.le_refl _⟩ (Nat.le_of_ble_eq_true rfl) dX12_carriesAll_19 ?_
  refine X_aload_n 0 dX12_carriesAll_22 rfl rfl rfl ?_
  refine X_aload_n 0 dX12_carriesAll_23 rfl rfl rfl ?_
  refine X_getPe fl_X12_22 (g_K123 G) rfl (g_P123_5 G) dX12_carriesAll_24 ?_
  obtain ⟨q3, e4, hm⟩ := ob hm
  refine X_cV0 (ci := 11) (kX12_carryRow d (by omega) G (g_K128 G) e4) ml_X12_575 mi_X12_carryRow rfl cf_11 (g_K123 G) rfl rfl (Nat.le_refl _) ⟨Nat.le_refl _, Nat.le_refl _⟩ (Nat.le_of_ble_eq_true rfl) dX12_carriesAll_27 ?_
  refine X_aload_n 0 dX12_carriesAll_30 rfl rfl rfl ?_
  refine X_aload_n 0 dX12_carriesAll_31 rfl rfl rfl ?_
  refine X_getPe fl_X12_31 (g_K123 G) rfl (g_P123_8 G) dX12_carriesAll_32 ?_
  obtain ⟨q5, e6, hm⟩ := ob hm
  refine X_cV0 (ci := 11) (kX12_carryRow d (by omega) G (g_K131 G) e6) ml_X12_575 mi_X12_carryRow rfl cf_11 (g_K123 G) rfl rfl (Nat.le_refl _) ⟨Nat.le_refl _, Nat.le_refl _⟩ (Nat.le_of_ble_eq_true rfl) dX12_carriesAll_35 ?_
  refine X_aload_n 0 dX12_carriesAll_38 rfl rfl rfl ?_
  refine X_aload_n 0 dX12_carriesAll_39 rfl rfl rfl ?_
  refine X_getPe fl_X12_34 (g_K123 G) rfl (g_P123_9 G) dX12_carriesAll_40 ?_
  obtain ⟨q7, e8, hm⟩ := ob hm
  refine X_cV0 (ci := 11) (kX12_carryRow d (by omega) G (g_K132 G) e8) ml_X12_575 mi_X12_carryRow rfl cf_11 (g_K123 G) rfl rfl (Nat.le_refl _) ⟨Nat.le_refl _, Nat.le_refl _⟩ (Nat.le_of_ble_eq_true rfl) dX12_carriesAll_43 ?_
  refine X_aload_n 0 dX12_carriesAll_46 rfl rfl rfl ?_
  refine X_aload_n 0 dX12_carriesAll_47 rfl rfl rfl ?_
  refine X_getPe fl_X12_37 (g_K123 G) rfl (g_P123_10 G) dX12_carriesAll_48 ?_
  obtain ⟨q9, e10, hm⟩ := ob hm
  refine X_cV0 (ci := 11) (kX12_carryRow d (by omega) G (g_K133 G) e10) ml_X12_575 mi_X12_carryRow rfl cf_11 (g_K123 G) rfl rfl (Nat.le_refl _) ⟨Nat.le_refl _, Nat.le_refl _⟩ (Nat.le_of_ble_eq_true rfl) dX12_carriesAll_51 ?_
  refine X_iload_n 1 dX12_carriesAll_54 rfl rfl ?_
  refine X_iconst (v := (4 : Int32)) dX12_carriesAll_55 (by decide) ?_
  refine X_icmp_ne (tgt := 60) dX12_carriesAll_56 (by decide) (fun c11 => ?_) (fun c11 => ?_)
  · replace hm := iq c11 hm
    refine X_aload_n 0 dX12_carriesAll_60 rfl rfl rfl ?_
    refine X_getPe fl_X12_133 (g_K123 G) rfl (g_P123_50 G) dX12_carriesAll_61 ?_
    refine X_iconst (v := (0 : Int32)) dX12_carriesAll_64 (by decide) ?_
    refine X_aload_n 0 dX12_carriesAll_65 rfl rfl rfl ?_
    refine X_getI fl_X12_349 (g_K123 G) rfl dX12_carriesAll_66 ?_
    refine X_iastJ (j := 0) (g_K163 G) rfl (by decide) dX12_carriesAll_69 ?_
    refine X_aload_n 0 dX12_carriesAll_70 rfl rfl rfl ?_
    refine X_aload_n 0 dX12_carriesAll_71 rfl rfl rfl ?_
    refine X_getPe fl_X12_133 (g_K123 G) rfl (g_P123_50 G) dX12_carriesAll_72 ?_
    obtain ⟨q12, e13, hm⟩ := ob hm
    refine X_cV0 (ci := 11) (kX12_carryRow d (by omega) G (g_K163 G) e13) ml_X12_575 mi_X12_carryRow rfl cf_11 (g_K123 G) rfl rfl (Nat.le_refl _) ⟨Nat.le_refl _, Nat.le_refl _⟩ (Nat.le_of_ble_eq_true rfl) dX12_carriesAll_75 ?_
    refine X_aload_n 0 dX12_carriesAll_78 rfl rfl rfl ?_
    refine X_aload_n 0 dX12_carriesAll_79 rfl rfl rfl ?_
    refine X_getPe fl_X12_133 (g_K123 G) rfl (g_P123_50 G) dX12_carriesAll_80 ?_
    refine X_iconst (v := (0 : Int32)) dX12_carriesAll_83 (by decide) ?_
    refine X_ialdJ (j := 0) (g_K163 G) rfl (by decide) dX12_carriesAll_84 ?_
    refine X_putI fl_X12_349 (g_K123 G) rfl rfl dX12_carriesAll_85 ?_
    refine X_aload_n 0 dX12_carriesAll_88 rfl rfl rfl ?_
    refine X_aload_n 0 dX12_carriesAll_89 rfl rfl rfl ?_
    refine X_getPe fl_X12_13 (g_K123 G) rfl (g_P123_2 G) dX12_carriesAll_90 ?_
    obtain ⟨q14, e15, hm⟩ := ob hm
    refine X_cV0 (ci := 11) (kX12_carryRow d (by omega) G (g_K125 G) e15) ml_X12_575 mi_X12_carryRow rfl cf_11 (g_K123 G) rfl rfl (Nat.le_refl _) ⟨Nat.le_refl _, Nat.le_refl _⟩ (Nat.le_of_ble_eq_true rfl) dX12_carriesAll_93 ?_
    refine X_aload_n 0 dX12_carriesAll_96 rfl rfl rfl ?_
    refine X_aload_n 0 dX12_carriesAll_97 rfl rfl rfl ?_
    refine X_getPe fl_X12_16 (g_K123 G) rfl (g_P123_3 G) dX12_carriesAll_98 ?_
    obtain ⟨q16, e17, hm⟩ := ob hm
    refine X_cV0 (ci := 11) (kX12_carryRow d (by omega) G (g_K126 G) e17) ml_X12_575 mi_X12_carryRow rfl cf_11 (g_K123 G) rfl rfl (Nat.le_refl _) ⟨Nat.le_refl _, Nat.le_refl _⟩ (Nat.le_of_ble_eq_true rfl) dX12_carriesAll_101 ?_
    refine X_aload_n 0 dX12_carriesAll_104 rfl rfl rfl ?_
    refine X_aload_n 0 dX12_carriesAll_105 rfl rfl rfl ?_
    refine X_getPe fl_X12_19 (g_K123 G) rfl (g_P123_4 G) dX12_carriesAll_106 ?_
    obtain ⟨q18, e19, hm⟩ := ob hm
    refine X_cV0 (ci := 11) (kX12_carryRow d (by omega) G (g_K127 G) e19) ml_X12_575 mi_X12_carryRow rfl cf_11 (g_K123 G) rfl rfl (Nat.le_refl _) ⟨Nat.le_refl _, Nat.le_refl _⟩ (Nat.le_of_ble_eq_true rfl) dX12_carriesAll_109 ?_
    refine X_aload_n 0 dX12_carriesAll_112 rfl rfl rfl ?_
    refine X_aload_n 0 dX12_carriesAll_113 rfl rfl rfl ?_
    refine X_getPe fl_X12_25 (g_K123 G) rfl (g_P123_6 G) dX12_carriesAll_114 ?_
    obtain ⟨q20, e21, hm⟩ := ob hm
    refine X_cV0 (ci := 11) (kX12_carryRow d (by omega) G (g_K129 G) e21) ml_X12_575 mi_X12_carryRow rfl cf_11 (g_K123 G) rfl rfl (Nat.le_refl _) ⟨Nat.le_refl _, Nat.le_refl _⟩ (Nat.le_of_ble_eq_true rfl) dX12_carriesAll_117 ?_
    refine X_aload_n 0 dX12_carriesAll_120 rfl rfl rfl ?_
    refine X_aload_n 0 dX12_carriesAll_121 rfl rfl rfl ?_
    refine X_getPe fl_X12_28 (g_K123 G) rfl (g_P123_7 G) dX12_carriesAll_122 ?_
    obtain ⟨q22, e23, hm⟩ := ob hm
    refine X_cV0 (ci := 11) (kX12_carryRow d (by omega) G (g_K130 G) e23) ml_X12_575 mi_X12_carryRow rfl cf_11 (g_K123 G) rfl rfl (Nat.le_refl _) ⟨Nat.le_refl _, Nat.le_refl _⟩ (Nat.le_of_ble_eq_true rfl) dX12_carriesAll_125 ?_
    refine X_aload_n 0 dX12_carriesAll_128 rfl rfl rfl ?_
    refine X_aload_n 0 dX12_carriesAll_129 rfl rfl rfl ?_
    refine X_getPe fl_X12_40 (g_K123 G) rfl (g_P123_11 G) dX12_carriesAll_130 ?_
    obtain ⟨q24, e25, hm⟩ := ob hm
    refine X_cV0 (ci := 11) (kX12_carryRow d (by omega) G (g_K134 G) e25) ml_X12_575 mi_X12_carryRow rfl cf_11 (g_K123 G) rfl rfl (Nat.le_refl _) ⟨Nat.le_refl _, Nat.le_refl _⟩ (Nat.le_of_ble_eq_true rfl) dX12_carriesAll_133 ?_
    refine X_aload_n 0 dX12_carriesAll_136 rfl rfl rfl ?_
    refine X_aload_n 0 dX12_carriesAll_137 rfl rfl rfl ?_
    refine X_getPe fl_X12_43 (g_K123 G) rfl (g_P123_12 G) dX12_carriesAll_138 ?_
    obtain ⟨q26, e27, hm⟩ := ob hm
    refine X_cV0 (ci := 11) (kX12_carryRow d (by omega) G (g_K135 G) e27) ml_X12_575 mi_X12_carryRow rfl cf_11 (g_K123 G) rfl rfl (Nat.le_refl _) ⟨Nat.le_refl _, Nat.le_refl _⟩ (Nat.le_of_ble_eq_true rfl) dX12_carriesAll_141 ?_
    refine X_aload_n 0 dX12_carriesAll_144 rfl rfl rfl ?_
    refine X_aload_n 0 dX12_carriesAll_145 rfl rfl rfl ?_
    refine X_getPe fl_X12_46 (g_K123 G) rfl (g_P123_13 G) dX12_carriesAll_146 ?_
    obtain ⟨q28, e29, hm⟩ := ob hm
    refine X_cV0 (ci := 11) (kX12_carryRow d (by omega) G (g_K136 G) e29) ml_X12_575 mi_X12_carryRow rfl cf_11 (g_K123 G) rfl rfl (Nat.le_refl _) ⟨Nat.le_refl _, Nat.le_refl _⟩ (Nat.le_of_ble_eq_true rfl) dX12_carriesAll_149 ?_
    refine X_aload_n 0 dX12_carriesAll_152 rfl rfl rfl ?_
    refine X_aload_n 0 dX12_carriesAll_153 rfl rfl rfl ?_
    refine X_getPe fl_X12_49 (g_K123 G) rfl (g_P123_14 G) dX12_carriesAll_154 ?_
    obtain ⟨q30, e31, hm⟩ := ob hm
    refine X_cV0 (ci := 11) (kX12_carryRow d (by omega) G (g_K137 G) e31) ml_X12_575 mi_X12_carryRow rfl cf_11 (g_K123 G) rfl rfl (Nat.le_refl _) ⟨Nat.le_refl _, Nat.le_refl _⟩ (Nat.le_of_ble_eq_true rfl) dX12_carriesAll_157 ?_
    refine X_aload_n 0 dX12_carriesAll_160 rfl rfl rfl ?_
    refine X_aload_n 0 dX12_carriesAll_161 rfl rfl rfl ?_
    refine X_getPe fl_X12_52 (g_K123 G) rfl (g_P123_15 G) dX12_carriesAll_162 ?_
    obtain ⟨q32, e33, hm⟩ := ob hm
    refine X_cV0 (ci := 11) (kX12_carryRow d (by omega) G (g_K138 G) e33) ml_X12_575 mi_X12_carryRow rfl cf_11 (g_K123 G) rfl rfl (Nat.le_refl _) ⟨Nat.le_refl _, Nat.le_refl _⟩ (Nat.le_of_ble_eq_true rfl) dX12_carriesAll_165 ?_
    refine X_aload_n 0 dX12_carriesAll_168 rfl rfl rfl ?_
    refine X_aload_n 0 dX12_carriesAll_169 rfl rfl rfl ?_
    refine X_getPe fl_X12_55 (g_K123 G) rfl (g_P123_16 G) dX12_carriesAll_170 ?_
    obtain ⟨q34, e35, hm⟩ := ob hm
    refine X_cV0 (ci := 11) (kX12_carryRow d (by omega) G (g_K139 G) e35) ml_X12_575 mi_X12_carryRow rfl cf_11 (g_K123 G) rfl rfl (Nat.le_refl _) ⟨Nat.le_refl _, Nat.le_refl _⟩ (Nat.le_of_ble_eq_true rfl) dX12_carriesAll_173 ?_
    refine X_aload_n 0 dX12_carriesAll_176 rfl rfl rfl ?_
    refine X_aload_n 0 dX12_carriesAll_177 rfl rfl rfl ?_
    refine X_getPe fl_X12_58 (g_K123 G) rfl (g_P123_17 G) dX12_carriesAll_178 ?_
    obtain ⟨q36, e37, hm⟩ := ob hm
    refine X_cV0 (ci := 11) (kX12_carryRow d (by omega) G (g_K140 G) e37) ml_X12_575 mi_X12_carryRow rfl cf_11 (g_K123 G) rfl rfl (Nat.le_refl _) ⟨Nat.le_refl _, Nat.le_refl _⟩ (Nat.le_of_ble_eq_true rfl) dX12_carriesAll_181 ?_
    refine X_aload_n 0 dX12_carriesAll_184 rfl rfl rfl ?_
    refine X_aload_n 0 dX12_carriesAll_185 rfl rfl rfl ?_
    refine X_getPe fl_X12_130 (g_K123 G) rfl (g_P123_49 G) dX12_carriesAll_186 ?_
    obtain ⟨q38, e39, hm⟩ := ob hm
    refine X_cV0 (ci := 11) (kX12_carryRow d (by omega) G (g_K162 G) e39) ml_X12_575 mi_X12_carryRow rfl cf_11 (g_K123 G) rfl rfl (Nat.le_refl _) ⟨Nat.le_refl _, Nat.le_refl _⟩ (Nat.le_of_ble_eq_true rfl) dX12_carriesAll_189 ?_
    replace hm := Option.some.inj hm
    subst hm
    exact X_vret dX12_carriesAll_192 rfl
  · replace hm := ip c11 hm
    replace hm := Option.some.inj hm
    subst hm
    exact X_vret dX12_carriesAll_59 rfl

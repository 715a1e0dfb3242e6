def mX0_with  (a0 : Int64) (a2 : Int32) (a3 : Int32) : Option (Int64) := (some (((xlshl a0 (12 : Int32)) ||| ((xlshl (a3 + (2 : Int32)).toInt64 (2 : Int32)) ||| a2.toInt64)) &&& (1152921504606846975 : Int64)))
set_option maxHeartbeats 400000 in
set_option maxRecDepth 100000 in
theorem kX0_with {E : xE} {B : Nat} {n : Nat} {K : Nat → Nat × Nat} {P : Nat → Nat → Nat} {I : Nat → Nat → Int32} {L : Nat → Nat → Int64}  {a0 : Int64} {a2 : Int32} {a3 : Int32} {q : Int64} (d : Nat) (hd : 0 ≤ d) (G : GW K P)   (hm : mX0_with a0 a2 a3 = some q) : MX E B d 0 0 yX0_with cX0_with 6 (some .long) [.long a0, .int a2, .int a3] (n, K, P, I, L) (some (.long q), (n, K, P, I, L)) := by
  refine MX_of (lv := [(0, .long a0), (2, .int a2), (3, .int a3)]) (by decide +kernel) (Nat.le_of_ble_eq_true rfl) rfl ?_
  unfold mX0_with at hm
  refine X_iload_n 2 dX0_with_0 rfl rfl ?_
  refine X_iconst (v := (2 : Int32)) dX0_with_1 (by decide) ?_
  refine X_iadd dX0_with_2 ?_
  refine X_i2l dX0_with_3 ?_
  refine X_iconst (v := (2 : Int32)) dX0_with_4 (by decide) ?_
  refine X_lshl dX0_with_5 ?_
  refine X_iload_n 1 dX0_with_6 rfl rfl ?_
  refine X_i2l dX0_with_7 ?_
  refine X_lor dX0_with_8 ?_
  refine X_lstore (lv' := [(4, .long ((xlshl (a3 + (2 : Int32)).toInt64 (2 : Int32)) ||| a2.toInt64)), (0, .long a0), (2, .int a2), (3, .int a3)]) dX0_with_9 (by decide) rfl ?_
  refine X_lload_n 1 dX0_with_11 rfl rfl ?_
  refine X_bipush (v := (12 : Int32)) dX0_with_12 (by decide) ?_
  refine X_lshl dX0_with_14 ?_
  refine X_lload 0 dX0_with_15 rfl ?_
  refine X_lor dX0_with_17 ?_
  refine X_ldc2 lc_X0_11 dX0_with_18 ?_
  refine X_land dX0_with_21 ?_
  replace hm := Option.some.inj hm
  subst hm
  exact X_lret dX0_with_22 rfl
def mX0_without  (a0 : Int64) (a2 : Int32) : Option (Int64) := (if a2 < 0 then (some (0 : Int64)) else (if a2 < (5 : Int32) then (some (xlushr a0 (a2 * (12 : Int32)))) else (some (0 : Int64))))
set_option maxHeartbeats 400000 in
set_option maxRecDepth 100000 in
theorem kX0_without {E : xE} {B : Nat} {n : Nat} {K : Nat → Nat × Nat} {P : Nat → Nat → Nat} {I : Nat → Nat → Int32} {L : Nat → Nat → Int64}  {a0 : Int64} {a2 : Int32} {q : Int64} (d : Nat) (hd : 0 ≤ d) (G : GW K P)   (hm : mX0_without a0 a2 = some q) : MX E B d 0 0 yX0_without cX0_without 3 (some .long) [.long a0, .int a2] (n, K, P, I, L) (some (.long q), (n, K, P, I, L)) := by
  refine MX_of (lv := [(0, .long a0), (2, .int a2)]) (by decide +kernel) (Nat.le_of_ble_eq_true rfl) rfl ?_
  unfold mX0_without at hm
  refine X_iload_n 1 dX0_without_0 rfl rfl ?_
  refine X_if_lt (tgt := 9) dX0_without_1 (by decide) (fun c1 => ?_) (fun c1 => ?_)
  · replace hm := ip c1 hm
    refine X_lconst (v := (0 : Int64)) dX0_without_9 (by decide) ?_
    refine X_goto (tgt := 19) dX0_without_10 (by decide) ?_
    replace hm := Option.some.inj hm
    subst hm
    exact X_lret dX0_without_19 rfl
  · replace hm := iq c1 hm
    refine X_iload_n 1 dX0_without_4 rfl rfl ?_
    refine X_iconst (v := (5 : Int32)) dX0_without_5 (by decide) ?_
    refine X_icmp_lt (tgt := 13) dX0_without_6 (by decide) (fun c2 => ?_) (fun c2 => ?_)
    · replace hm := ip c2 hm
      refine X_lload_n 0 dX0_without_13 rfl rfl ?_
      refine X_iload_n 1 dX0_without_14 rfl rfl ?_
      refine X_bipush (v := (12 : Int32)) dX0_without_15 (by decide) ?_
      refine X_imul dX0_without_17 ?_
      refine X_lushr dX0_without_18 ?_
      replace hm := Option.some.inj hm
      subst hm
      exact X_lret dX0_without_19 rfl
    · replace hm := iq c2 hm
      refine X_lconst (v := (0 : Int64)) dX0_without_9 (by decide) ?_
      refine X_goto (tgt := 19) dX0_without_10 (by decide) ?_
      replace hm := Option.some.inj hm
      subst hm
      exact X_lret dX0_without_19 rfl
def mX0_height_2   : Nat → Int64 → Int32 → Option (Int32)
  | 0, _, _ => none
  | f + 1, a0, a2 => (if (5 : Int32) ≤ a2 then (some (5 : Int32)) else (if (lg_cmp (xlushr a0 (a2 * (12 : Int32))) (0 : Int64)) = 0 then (some a2) else (mX0_height_2 f a0 (a2 + 1))))
set_option maxHeartbeats 400000 in
set_option maxRecDepth 100000 in
theorem kX0_height_2 {E : xE} {B : Nat} {n : Nat} {K : Nat → Nat × Nat} {P : Nat → Nat → Nat} {I : Nat → Nat → Int32} {L : Nat → Nat → Int64}   {q : Int32} (d : Nat) (hd : 0 ≤ d) (G : GW K P)   : ∀ (f : Nat) (a0 : Int64) (a2 : Int32), mX0_height_2 f a0 a2 = some q → X E B d 0 0 yX0_height cX0_height 3 (some .int) (some (.int q), (n, K, P, I, L)) 2 [(0, .long a0), (2, .int a2)] [] 0 0 (n, K, P, I, L) := by
  intro f
  induction f with
  | zero => intro _ _ hm; exact nomatch (show (none : Option (Int32)) = some q from hm)
  | succ f ih =>
    intro a0 a2 hm
    rw [mX0_height_2] at hm
    refine X_iload_n 1 dX0_height_2 rfl rfl ?_
    refine X_iconst (v := (5 : Int32)) dX0_height_3 (by decide) ?_
    refine X_icmp_ge (tgt := 26) dX0_height_4 (by decide) (fun c1 => ?_) (fun c1 => ?_)
    · replace hm := ip c1 hm
      refine X_iconst (v := (5 : Int32)) dX0_height_26 (by decide) ?_
      replace hm := Option.some.inj hm
      subst hm
      exact X_iret dX0_height_27 rfl
    · replace hm := iq c1 hm
      refine X_lload_n 0 dX0_height_7 rfl rfl ?_
      refine X_iload_n 1 dX0_height_8 rfl rfl ?_
      refine X_bipush (v := (12 : Int32)) dX0_height_9 (by decide) ?_
      refine X_imul dX0_height_11 ?_
      refine X_lushr dX0_height_12 ?_
      refine X_lconst (v := (0 : Int64)) dX0_height_13 (by decide) ?_
      refine X_lcmp dX0_height_14 ?_
      refine X_if_ne (tgt := 20) dX0_height_15 (by decide) (fun c2 => ?_) (fun c2 => ?_)
      · replace hm := iq c2 hm
        refine X_iinc (lv' := [(2, .int (a2 + 1)), (0, .long a0)]) 1 dX0_height_20 rfl rfl (by decide) rfl ?_
        refine X_goto (tgt := 2) dX0_height_23 (by decide) ?_
        exact X_lv [1, 0] rfl (ih _ _ hm)
      · replace hm := ip c2 hm
        refine X_iload_n 1 dX0_height_18 rfl rfl ?_
        replace hm := Option.some.inj hm
        subst hm
        exact X_iret dX0_height_19 rfl
def mX0_height  (a0 : Int64) : Option (Int32) := (mX0_height_2 xf a0 (0 : Int32))
set_option maxHeartbeats 400000 in
set_option maxRecDepth 100000 in
theorem kX0_height {E : xE} {B : Nat} {n : Nat} {K : Nat → Nat × Nat} {P : Nat → Nat → Nat} {I : Nat → Nat → Int32} {L : Nat → Nat → Int64}  {a0 : Int64} {q : Int32} (d : Nat) (hd : 0 ≤ d) (G : GW K P)   (hm : mX0_height a0 = some q) : MX E B d 0 0 yX0_height cX0_height 3 (some .int) [.long a0] (n, K, P, I, L) (some (.int q), (n, K, P, I, L)) := by
  refine MX_of (lv := [(0, .long a0)]) (by decide +kernel) (Nat.le_of_ble_eq_true rfl) rfl ?_
  unfold mX0_height at hm
  refine X_iconst (v := (0 : Int32)) dX0_height_0 (by decide) ?_
  refine X_istore_n (lv' := [(2, .int (0 : Int32)), (0, .long a0)]) dX0_height_1 rfl (by decide) rfl ?_
  refine X_lv [1, 0] rfl (kX0_height_2 _ hd G xf _ _  hm)
def mX0_topPainter  (a0 : Int64) : Option (Int32) := (if (lg_cmp a0 (0 : Int64)) = 0 then (some (-1 : Int32)) else (some (a0 &&& (3 : Int64)).toInt32))
set_option maxHeartbeats 400000 in
set_option maxRecDepth 100000 in
theorem kX0_topPainter {E : xE} {B : Nat} {n : Nat} {K : Nat → Nat × Nat} {P : Nat → Nat → Nat} {I : Nat → Nat → Int32} {L : Nat → Nat → Int64}  {a0 : Int64} {q : Int32} (d : Nat) (hd : 0 ≤ d) (G : GW K P)   (hm : mX0_topPainter a0 = some q) : MX E B d 0 0 yX0_topPainter cX0_topPainter 2 (some .int) [.long a0] (n, K, P, I, L) (some (.int q), (n, K, P, I, L)) := by
  refine MX_of (lv := [(0, .long a0)]) (by decide +kernel) (Nat.le_of_ble_eq_true rfl) rfl ?_
  unfold mX0_topPainter at hm
  refine X_lload_n 0 dX0_topPainter_0 rfl rfl ?_
  refine X_lconst (v := (0 : Int64)) dX0_topPainter_1 (by decide) ?_
  refine X_lcmp dX0_topPainter_2 ?_
  refine X_if_ne (tgt := 10) dX0_topPainter_3 (by decide) (fun c1 => ?_) (fun c1 => ?_)
  · replace hm := iq c1 hm
    refine X_lload_n 0 dX0_topPainter_10 rfl rfl ?_
    refine X_ldc2 lc_X0_13 dX0_topPainter_11 ?_
    refine X_land dX0_topPainter_14 ?_
    refine X_l2i dX0_topPainter_15 ?_
    replace hm := Option.some.inj hm
    subst hm
    exact X_iret dX0_topPainter_16 rfl
  · replace hm := ip c1 hm
    refine X_iconst (v := (-1 : Int32)) dX0_topPainter_6 (by decide) ?_
    refine X_goto (tgt := 16) dX0_topPainter_7 (by decide) ?_
    replace hm := Option.some.inj hm
    subst hm
    exact X_iret dX0_topPainter_16 rfl
def mX0_topHour  (a0 : Int64) : Option (Int32) := (some (((xlushr a0 (2 : Int32)) &&& (1023 : Int64)).toInt32 - (2 : Int32)))
set_option maxHeartbeats 400000 in
set_option maxRecDepth 100000 in
theorem kX0_topHour {E : xE} {B : Nat} {n : Nat} {K : Nat → Nat × Nat} {P : Nat → Nat → Nat} {I : Nat → Nat → Int32} {L : Nat → Nat → Int64}  {a0 : Int64} {q : Int32} (d : Nat) (hd : 0 ≤ d) (G : GW K P)   (hm : mX0_topHour a0 = some q) : MX E B d 0 0 yX0_topHour cX0_topHour 2 (some .int) [.long a0] (n, K, P, I, L) (some (.int q), (n, K, P, I, L)) := by
  refine MX_of (lv := [(0, .long a0)]) (by decide +kernel) (Nat.le_of_ble_eq_true rfl) rfl ?_
  unfold mX0_topHour at hm
  refine X_lload_n 0 dX0_topHour_0 rfl rfl ?_
  refine X_iconst (v := (2 : Int32)) dX0_topHour_1 (by decide) ?_
  refine X_lushr dX0_topHour_2 ?_
  refine X_ldc2 lc_X0_15 dX0_topHour_3 ?_
  refine X_land dX0_topHour_6 ?_
  refine X_l2i dX0_topHour_7 ?_
  refine X_iconst (v := (2 : Int32)) dX0_topHour_8 (by decide) ?_
  refine X_isub dX0_topHour_9 ?_
  replace hm := Option.some.inj hm
  subst hm
  exact X_iret dX0_topHour_10 rfl
def mX0_aheadOf_2   : Nat → Int64 → Int32 → Int32 → Option (Int64)
  | 0, _, _, _ => none
  | f + 1, a0, a2, a3 => (if (5 : Int32) ≤ a3 then (some (0 : Int64)) else (Option.bind (mX0_without a0 a3) (fun q2 => (if (lg_cmp q2 (0 : Int64)) = 0 then (some q2) else (Option.bind (mX0_topHour q2) (fun q5 => (if a2 ≤ q5 then (mX0_aheadOf_2 f a0 a2 (a3 + 1)) else (some q2))))))))
set_option maxHeartbeats 400000 in
set_option maxRecDepth 100000 in
theorem kX0_aheadOf_2 {E : xE} {B : Nat} {n : Nat} {K : Nat → Nat × Nat} {P : Nat → Nat → Nat} {I : Nat → Nat → Int32} {L : Nat → Nat → Int64}   {q : Int64} (d : Nat) (hd : 1 ≤ d) (G : GW K P)   : ∀ (f : Nat) (a0 : Int64) (a2 : Int32) (a3 : Int32), mX0_aheadOf_2 f a0 a2 a3 = some q → X E B d 0 0 yX0_aheadOf cX0_aheadOf 6 (some .long) (some (.long q), (n, K, P, I, L)) 2 [(0, .long a0), (2, .int a2), (3, .int a3)] [] 0 0 (n, K, P, I, L) := by
  obtain ⟨d, rfl⟩ : ∃ d0, d = d0 + 1 := ⟨d - 1, by omega⟩
  intro f
  induction f with
  | zero => intro _ _ _ hm; exact nomatch (show (none : Option (Int64)) = some q from hm)
  | succ f ih =>
    intro a0 a2 a3 hm
    rw [mX0_aheadOf_2] at hm
    refine X_iload_n 2 dX0_aheadOf_2 rfl rfl ?_
    refine X_iconst (v := (5 : Int32)) dX0_aheadOf_3 (by decide) ?_
    refine X_icmp_ge (tgt := 39) dX0_aheadOf_4 (by decide) (fun c1 => ?_) (fun c1 => ?_)
    · replace hm := ip c1 hm
      refine X_lconst (v := (0 : Int64)) dX0_aheadOf_39 (by decide) ?_
      replace hm := Option.some.inj hm
      subst hm
      exact X_lret dX0_aheadOf_40 rfl
    · replace hm := iq c1 hm
      refine X_lload_n 0 dX0_aheadOf_7 rfl rfl ?_
      refine X_iload_n 2 dX0_aheadOf_8 rfl rfl ?_
      obtain ⟨q2, e3, hm⟩ := ob hm
      refine X_cS1 (kX0_without d (by omega) G e3) ml_X0_17 ms_X0_without rfl rfl (Nat.le_refl _) ⟨Nat.le_refl _, Nat.le_refl _⟩ (Nat.le_of_ble_eq_true rfl) dX0_aheadOf_9 ?_
      refine X_lstore (lv' := [(4, .long q2), (0, .long a0), (2, .int a2), (3, .int a3)]) dX0_aheadOf_12 (by decide) rfl ?_
      refine X_lload 0 dX0_aheadOf_14 rfl ?_
      refine X_lconst (v := (0 : Int64)) dX0_aheadOf_16 (by decide) ?_
      refine X_lcmp dX0_aheadOf_17 ?_
      refine X_if_eq (tgt := 30) dX0_aheadOf_18 (by decide) (fun c4 => ?_) (fun c4 => ?_)
      · replace hm := ip c4 hm
        refine X_lload 0 dX0_aheadOf_30 rfl ?_
        replace hm := Option.some.inj hm
        subst hm
        exact X_lret dX0_aheadOf_32 rfl
      · replace hm := iq c4 hm
        refine X_lload 0 dX0_aheadOf_21 rfl ?_
        obtain ⟨q5, e6, hm⟩ := ob hm
        refine X_cS1 (kX0_topHour d (by omega) G e6) ml_X0_21 ms_X0_topHour rfl rfl (Nat.le_refl _) ⟨Nat.le_refl _, Nat.le_refl _⟩ (Nat.le_of_ble_eq_true rfl) dX0_aheadOf_23 ?_
        refine X_iload_n 2 dX0_aheadOf_26 rfl rfl ?_
        refine X_icmp_ge (tgt := 33) dX0_aheadOf_27 (by decide) (fun c7 => ?_) (fun c7 => ?_)
        · replace hm := ip c7 hm
          refine X_iinc (lv' := [(3, .int (a3 + 1)), (4, .long q2), (0, .long a0), (2, .int a2)]) 3 dX0_aheadOf_33 rfl rfl (by decide) rfl ?_
          refine X_goto (tgt := 2) dX0_aheadOf_36 (by decide) ?_
          exact X_lv [2, 3, 0] rfl (ih _ _ _ hm)
        · replace hm := iq c7 hm
          refine X_lload 0 dX0_aheadOf_30 rfl ?_
          replace hm := Option.some.inj hm
          subst hm
          exact X_lret dX0_aheadOf_32 rfl
def mX0_aheadOf  (a0 : Int64) (a2 : Int32) : Option (Int64) := (mX0_aheadOf_2 xf a0 a2 (0 : Int32))
set_option maxHeartbeats 400000 in
set_option maxRecDepth 100000 in
theorem kX0_aheadOf {E : xE} {B : Nat} {n : Nat} {K : Nat → Nat × Nat} {P : Nat → Nat → Nat} {I : Nat → Nat → Int32} {L : Nat → Nat → Int64}  {a0 : Int64} {a2 : Int32} {q : Int64} (d : Nat) (hd : 1 ≤ d) (G : GW K P)   (hm : mX0_aheadOf a0 a2 = some q) : MX E B d 0 0 yX0_aheadOf cX0_aheadOf 6 (some .long) [.long a0, .int a2] (n, K, P, I, L) (some (.long q), (n, K, P, I, L)) := by
  refine MX_of (lv := [(0, .long a0), (2, .int a2)]) (by decide +kernel) (Nat.le_of_ble_eq_true rfl) rfl ?_
  obtain ⟨d, rfl⟩ : ∃ d0, d = d0 + 1 := ⟨d - 1, by omega⟩
  unfold mX0_aheadOf at hm
  refine X_iconst (v := (0 : Int32)) dX0_aheadOf_0 (by decide) ?_
  refine X_istore_n (lv' := [(3, .int (0 : Int32)), (0, .long a0), (2, .int a2)]) dX0_aheadOf_1 rfl (by decide) rfl ?_
  refine X_lv [1, 2, 0] rfl (kX0_aheadOf_2 _ hd G xf _ _ _  hm)
def mX1_lay  (I : Nat → Nat → Int32) (L : Nat → Nat → Int64) (a1 : Nat) (a2 : Nat) (a3 : Int32) : Option ((Nat → Nat → Int32) × (Nat → Nat → Int64)) := (if inb a3 4 = true then (if inb a3 4 = true then (if xcb ((xu (xu I 102 1 (I a2 2)) 102 2 ((xu I 102 1 (I a2 2)) (a1 + 2) (ix a3))) (a1 + 1) (ix a3)) (0 : Int32) ((xu (xu I 102 1 (I a2 2)) 102 2 ((xu I 102 1 (I a2 2)) (a1 + 2) (ix a3))) 102 2) 16 6 = true then (some ((xu (xu I 102 1 (I a2 2)) 102 2 ((xu I 102 1 (I a2 2)) (a1 + 2) (ix a3))), (xrow L (104 + ix (0 : Int32)) (va_cpy (L (a2 + 1)) (L (104 + ix (0 : Int32))) (ix ((xu (xu I 102 1 (I a2 2)) 102 2 ((xu I 102 1 (I a2 2)) (a1 + 2) (ix a3))) (a1 + 1) (ix a3))) (ix (0 : Int32)) (ix ((xu (xu I 102 1 (I a2 2)) 102 2 ((xu I 102 1 (I a2 2)) (a1 + 2) (ix a3))) 102 2)))))) else none) else none) else none)
set_option maxHeartbeats 400000 in
set_option maxRecDepth 100000 in
theorem kX1_lay {E : xE} {B : Nat} {n : Nat} {K : Nat → Nat × Nat} {P : Nat → Nat → Nat} {I : Nat → Nat → Int32} {L : Nat → Nat → Int64}  {a1 : Nat} {a2 : Nat} {a3 : Int32} {q : (Nat → Nat → Int32) × (Nat → Nat → Int64)} (d : Nat) (hd : 1 ≤ d) (G : GW K P)  (h1 : K a1 = (6, 0)) (h2 : K a2 = (5, 0)) (hm : mX1_lay I L a1 a2 a3 = some q) : MX E B d 0 0 yX1_lay cX1_lay 4 (none : Option Jvm.ClassFile.FieldType) [.ref 102, .ref a1, .ref a2, .int a3] (n, K, P, I, L) (none, (n, K, P, q.1, q.2)) := by
  refine MX_of (lv := [(0, .ref 102), (1, .ref a1), (2, .ref a2), (3, .int a3)]) (by decide +kernel) (Nat.le_of_ble_eq_true rfl) rfl ?_
  obtain ⟨d, rfl⟩ : ∃ d0, d = d0 + 1 := ⟨d - 1, by omega⟩
  unfold mX1_lay at hm
  refine X_aload_n 0 dX1_lay_0 rfl rfl rfl ?_
  refine X_aload_n 2 dX1_lay_1 rfl rfl rfl ?_
  refine X_getI fl_X1_16 h2 rfl dX1_lay_2 ?_
  refine X_putI fl_X1_22 (g_K102 G) rfl rfl dX1_lay_5 ?_
  refine X_aload_n 0 dX1_lay_8 rfl rfl rfl ?_
  refine X_aload_n 1 dX1_lay_9 rfl rfl rfl ?_
  refine X_getPe fl_X1_25 h1 rfl (gl6_P10 G h1) dX1_lay_10 ?_
  refine X_iload_n 3 dX1_lay_13 rfl rfl ?_
  obtain ⟨g1, hm⟩ := og hm
  refine X_ialdJ (gl6_K2 G h1) g1 rfl dX1_lay_14 ?_
  refine X_putI fl_X1_31 (g_K102 G) rfl rfl dX1_lay_15 ?_
  refine X_aload_n 2 dX1_lay_18 rfl rfl rfl ?_
  refine X_getPe fl_X1_34 h2 rfl (gl5_P0 G h2) dX1_lay_19 ?_
  refine X_aload_n 1 dX1_lay_22 rfl rfl rfl ?_
  refine X_getPe fl_X1_37 h1 rfl (gl6_P9 G h1) dX1_lay_23 ?_
  refine X_iload_n 3 dX1_lay_26 rfl rfl ?_
  obtain ⟨g2, hm⟩ := og hm
  refine X_ialdJ (gl6_K1 G h1) g2 rfl dX1_lay_27 ?_
  refine X_aload_n 0 dX1_lay_28 rfl rfl rfl ?_
  refine X_getPe fl_X1_11 (g_K102 G) rfl (g_P102_0 G) dX1_lay_29 ?_
  refine X_iconst (v := (0 : Int32)) dX1_lay_32 (by decide) ?_
  refine X_aaldJ (g_K103 G) (by decide) rfl rfl (g_rowP103 G (inb_lt rfl)) dX1_lay_33 ?_
  refine X_iconst (v := (0 : Int32)) dX1_lay_34 (by decide) ?_
  refine X_aload_n 0 dX1_lay_35 rfl rfl rfl ?_
  refine X_getI fl_X1_31 (g_K102 G) rfl dX1_lay_36 ?_
  obtain ⟨g3, hm⟩ := og hm
  refine X_copyL (gl5_K1 G h2) (g_rowK103 G (inb_lt rfl)) al_X1_40 ay_n ay_s ay_i g3 (by omega) (Nat.le_of_ble_eq_true rfl) dX1_lay_39 ?_
  replace hm := Option.some.inj hm
  subst hm
  exact X_vret dX1_lay_42 rfl
def mJ9_min_7cf53  (a0 : Int32) (a1 : Int32) : Option (Int32) := (if a1 < a0 then (some a1) else (some a0))
set_option maxHeartbeats 400000 in
set_option maxRecDepth 100000 in
theorem kJ9_min_7cf53 {E : xE} {B : Nat} {n : Nat} {K : Nat → Nat × Nat} {P : Nat → Nat → Nat} {I : Nat → Nat → Int32} {L : Nat → Nat → Int64}  {a0 : Int32} {a1 : Int32} {q : Int32} (d : Nat) (hd : 0 ≤ d) (G : GW K P)   (hm : mJ9_min_7cf53 a0 a1 = some q) : MX E B d 0 0 yJ9_min_7cf53 cJ9_min_7cf53 2 (some .int) [.int a0, .int a1] (n, K, P, I, L) (some (.int q), (n, K, P, I, L)) := by
  refine MX_ofJ (lv := [(0, .int a0), (1, .int a1)]) (by decide +kernel) (Nat.le_of_ble_eq_true rfl) rfl ?_
  unfold mJ9_min_7cf53 at hm
  refine X_iload_n 0 dJ9_min_7cf53_0 rfl rfl ?_
  refine X_iload_n 1 dJ9_min_7cf53_1 rfl rfl ?_
  refine X_icmp_gt (tgt := 9) dJ9_min_7cf53_2 (by decide) (fun c1 => ?_) (fun c1 => ?_)
  · replace hm := ip c1 hm
    refine X_iload_n 1 dJ9_min_7cf53_9 rfl rfl ?_
    replace hm := Option.some.inj hm
    subst hm
    exact X_iret dJ9_min_7cf53_10 rfl
  · replace hm := iq c1 hm
    refine X_iload_n 0 dJ9_min_7cf53_5 rfl rfl ?_
    refine X_goto (tgt := 10) dJ9_min_7cf53_6 (by decide) ?_
    replace hm := Option.some.inj hm
    subst hm
    exact X_iret dJ9_min_7cf53_10 rfl
def mX1_seat  (I : Nat → Nat → Int32) (a1 : Int32) (a2 : Int32) (a3 : Int32) : Option ((Nat → Nat → Int32)) := (Option.bind (mJ9_min_7cf53 a3 (4 : Int32)) (fun q1 => (some (xu (xu (xu (xu I 102 3 a1) 102 4 a2) 102 5 q1) 102 6 (-1 : Int32)))))
set_option maxHeartbeats 400000 in
set_option maxRecDepth 100000 in
theorem kX1_seat {E : xE} {B : Nat} {n : Nat} {K : Nat → Nat × Nat} {P : Nat → Nat → Nat} {I : Nat → Nat → Int32} {L : Nat → Nat → Int64}  {a1 : Int32} {a2 : Int32} {a3 : Int32} {q : (Nat → Nat → Int32)} (d : Nat) (hd : 1 ≤ d) (G : GW K P)   (hm : mX1_seat I a1 a2 a3 = some q) : MX E B d 0 0 yX1_seat cX1_seat 4 (none : Option Jvm.ClassFile.FieldType) [.ref 102, .int a1, .int a2, .int a3] (n, K, P, I, L) (none, (n, K, P, q, L)) := by
  refine MX_of (lv := [(0, .ref 102), (1, .int a1), (2, .int a2), (3, .int a3)]) (by decide +kernel) (Nat.le_of_ble_eq_true rfl) rfl ?_
  obtain ⟨d, rfl⟩ : ∃ d0, d = d0 + 1 := ⟨d - 1, by omega⟩
  unfold mX1_seat at hm
  refine X_aload_n 0 dX1_seat_0 rfl rfl rfl ?_
  refine X_iload_n 1 dX1_seat_1 rfl rfl ?_
  refine X_putI fl_X1_46 (g_K102 G) rfl rfl dX1_seat_2 ?_
  refine X_aload_n 0 dX1_seat_5 rfl rfl rfl ?_
  refine X_iload_n 2 dX1_seat_6 rfl rfl ?_
  refine X_putI fl_X1_49 (g_K102 G) rfl rfl dX1_seat_7 ?_
  refine X_aload_n 0 dX1_seat_10 rfl rfl rfl ?_
  refine X_iload_n 3 dX1_seat_11 rfl rfl ?_
  refine X_iconst (v := (4 : Int32)) dX1_seat_12 (by decide) ?_
  obtain ⟨q1, e2, hm⟩ := ob hm
  refine X_cS1 (kJ9_min_7cf53 d (by omega) G e2) ml_X1_52 ms_J9_min_7cf53 rfl rfl (Nat.le_refl _) ⟨Nat.le_refl _, Nat.le_refl _⟩ (Nat.le_of_ble_eq_true rfl) dX1_seat_13 ?_
  refine X_putI fl_X1_58 (g_K102 G) rfl rfl dX1_seat_16 ?_
  refine X_aload_n 0 dX1_seat_19 rfl rfl rfl ?_
  refine X_iconst (v := (-1 : Int32)) dX1_seat_20 (by decide) ?_
  refine X_putI fl_X1_61 (g_K102 G) rfl rfl dX1_seat_21 ?_
  replace hm := Option.some.inj hm
  subst hm
  exact X_vret dX1_seat_24 rfl
def mX7_rainsIn_2 (I : Nat → Nat → Int32)  : Nat → Nat → Int32 → Int32 → Option (Int32)
  | 0, _, _, _ => none
  | f + 1, a0, a1, a2 => (if (I a0 8) ≤ a2 then (some (0 : Int32)) else (if inb a2 5 = true then (if a1 < (I (a0 + 6) (ix a2)) then (mX7_rainsIn_2 I f a0 a1 (a2 + 1)) else (if inb a2 5 = true then (if (I (a0 + 7) (ix a2)) < a1 then (mX7_rainsIn_2 I f a0 a1 (a2 + 1)) else (some (1 : Int32))) else none)) else none))
set_option maxHeartbeats 400000 in
set_option maxRecDepth 100000 in
theorem kX7_rainsIn_2 {E : xE} {B : Nat} {n : Nat} {K : Nat → Nat × Nat} {P : Nat → Nat → Nat} {I : Nat → Nat → Int32} {L : Nat → Nat → Int64}   {q : Int32} (d : Nat) (hd : 0 ≤ d) (G : GW K P)   : ∀ (f : Nat) (a0 : Nat) (a1 : Int32) (a2 : Int32), K a0 = (6, 0) → mX7_rainsIn_2 I f a0 a1 a2 = some q → X E B d 0 0 yX7_rainsIn cX7_rainsIn 3 (some .boolean) (some (.int q), (n, K, P, I, L)) 2 [(0, .ref a0), (1, .int a1), (2, .int a2)] [] 0 0 (n, K, P, I, L) := by
  intro f
  induction f with
  | zero => intro _ _ _ _ hm; exact nomatch (show (none : Option (Int32)) = some q from hm)
  | succ f ih =>
    intro a0 a1 a2 h0 hm
    rw [mX7_rainsIn_2] at hm
    refine X_iload_n 2 dX7_rainsIn_2 rfl rfl ?_
    refine X_aload_n 0 dX7_rainsIn_3 rfl rfl rfl ?_
    refine X_getI fl_X7_40 h0 rfl dX7_rainsIn_4 ?_
    refine X_icmp_ge (tgt := 38) dX7_rainsIn_7 (by decide) (fun c1 => ?_) (fun c1 => ?_)
    · replace hm := ip c1 hm
      refine X_iconst (v := (0 : Int32)) dX7_rainsIn_38 (by decide) ?_
      replace hm := Option.some.inj hm
      subst hm
      exact X_zret (v := (0 : Int32)) dX7_rainsIn_39 rfl (x_nz (Or.inl rfl))
    · replace hm := iq c1 hm
      refine X_iload_n 1 dX7_rainsIn_10 rfl rfl ?_
      refine X_aload_n 0 dX7_rainsIn_11 rfl rfl rfl ?_
      refine X_getPe fl_X7_27 h0 rfl (gl6_P14 G h0) dX7_rainsIn_12 ?_
      refine X_iload_n 2 dX7_rainsIn_15 rfl rfl ?_
      obtain ⟨g2, hm⟩ := og hm
      refine X_ialdJ (gl6_K6 G h0) g2 rfl dX7_rainsIn_16 ?_
      refine X_icmp_lt (tgt := 32) dX7_rainsIn_17 (by decide) (fun c3 => ?_) (fun c3 => ?_)
      · replace hm := ip c3 hm
        refine X_iinc (lv' := [(2, .int (a2 + 1)), (0, .ref a0), (1, .int a1)]) 2 dX7_rainsIn_32 rfl rfl (by decide) rfl ?_
        refine X_goto (tgt := 2) dX7_rainsIn_35 (by decide) ?_
        exact X_lv [1, 2, 0] rfl (ih _ _ _ h0 hm)
      · replace hm := iq c3 hm
        refine X_iload_n 1 dX7_rainsIn_20 rfl rfl ?_
        refine X_aload_n 0 dX7_rainsIn_21 rfl rfl rfl ?_
        refine X_getPe fl_X7_30 h0 rfl (gl6_P15 G h0) dX7_rainsIn_22 ?_
        refine X_iload_n 2 dX7_rainsIn_25 rfl rfl ?_
        obtain ⟨g4, hm⟩ := og hm
        refine X_ialdJ (gl6_K7 G h0) g4 rfl dX7_rainsIn_26 ?_
        refine X_icmp_gt (tgt := 32) dX7_rainsIn_27 (by decide) (fun c5 => ?_) (fun c5 => ?_)
        · replace hm := ip c5 hm
          refine X_iinc (lv' := [(2, .int (a2 + 1)), (0, .ref a0), (1, .int a1)]) 2 dX7_rainsIn_32 rfl rfl (by decide) rfl ?_
          refine X_goto (tgt := 2) dX7_rainsIn_35 (by decide) ?_
          exact X_lv [1, 2, 0] rfl (ih _ _ _ h0 hm)
        · replace hm := iq c5 hm
          refine X_iconst (v := (1 : Int32)) dX7_rainsIn_30 (by decide) ?_
          replace hm := Option.some.inj hm
          subst hm
          exact X_zret (v := (1 : Int32)) dX7_rainsIn_31 rfl (x_nz (Or.inr rfl))
def mX7_rainsIn (I : Nat → Nat → Int32) (a0 : Nat) (a1 : Int32) : Option (Int32) := (mX7_rainsIn_2 I xf a0 a1 (0 : Int32))
set_option maxHeartbeats 400000 in
set_option maxRecDepth 100000 in
theorem kX7_rainsIn {E : xE} {B : Nat} {n : Nat} {K : Nat → Nat × Nat} {P : Nat → Nat → Nat} {I : Nat → Nat → Int32} {L : Nat → Nat → Int64}  {a0 : Nat} {a1 : Int32} {q : Int32} (d : Nat) (hd : 0 ≤ d) (G : GW K P)  (h0 : K a0 = (6, 0)) (hm : mX7_rainsIn I a0 a1 = some q) : MX E B d 0 0 yX7_rainsIn cX7_rainsIn 3 (some .boolean) [.ref a0, .int a1] (n, K, P, I, L) (some (.int q), (n, K, P, I, L)) := by
  refine MX_of (lv := [(0, .ref a0), (1, .int a1)]) (by decide +kernel) (Nat.le_of_ble_eq_true rfl) rfl ?_
  unfold mX7_rainsIn at hm
  refine X_iconst (v := (0 : Int32)) dX7_rainsIn_0 (by decide) ?_
  refine X_istore_n (lv' := [(2, .int (0 : Int32)), (0, .ref a0), (1, .int a1)]) dX7_rainsIn_1 rfl (by decide) rfl ?_
  refine X_lv [1, 2, 0] rfl (kX7_rainsIn_2 _ hd G xf _ _ _ h0 hm)
def mX7_isWet (I : Nat → Nat → Int32) (a0 : Nat) (a1 : Int64) (a3 : Int32) : Option (Int32) := (if (lg_cmp a1 (0 : Int64)) = 0 then (some (0 : Int32)) else (Option.bind (mX0_topHour a1) (fun q2 => (if q2 = (-1 : Int32) then (some (0 : Int32)) else (if (I a0 1) ≤ (a3 - q2) then (some (0 : Int32)) else (some (1 : Int32)))))))
set_option maxHeartbeats 400000 in
set_option maxRecDepth 100000 in
theorem kX7_isWet {E : xE} {B : Nat} {n : Nat} {K : Nat → Nat × Nat} {P : Nat → Nat → Nat} {I : Nat → Nat → Int32} {L : Nat → Nat → Int64}  {a0 : Nat} {a1 : Int64} {a3 : Int32} {q : Int32} (d : Nat) (hd : 1 ≤ d) (G : GW K P)  (h0 : K a0 = (6, 0)) (hm : mX7_isWet I a0 a1 a3 = some q) : MX E B d 0 0 yX7_isWet cX7_isWet 5 (some .boolean) [.ref a0, .long a1, .int a3] (n, K, P, I, L) (some (.int q), (n, K, P, I, L)) := by
  refine MX_of (lv := [(0, .ref a0), (1, .long a1), (3, .int a3)]) (by decide +kernel) (Nat.le_of_ble_eq_true rfl) rfl ?_
  obtain ⟨d, rfl⟩ : ∃ d0, d = d0 + 1 := ⟨d - 1, by omega⟩
  unfold mX7_isWet at hm
  refine X_lload_n 1 dX7_isWet_0 rfl rfl ?_
  refine X_lconst (v := (0 : Int64)) dX7_isWet_1 (by decide) ?_
  refine X_lcmp dX7_isWet_2 ?_
  refine X_if_ne (tgt := 8) dX7_isWet_3 (by decide) (fun c1 => ?_) (fun c1 => ?_)
  · replace hm := iq c1 hm
    refine X_lload_n 1 dX7_isWet_8 rfl rfl ?_
    obtain ⟨q2, e3, hm⟩ := ob hm
    refine X_cS1 (kX0_topHour d (by omega) G e3) ml_X7_51 ms_X0_topHour rfl rfl (Nat.le_refl _) ⟨Nat.le_refl _, Nat.le_refl _⟩ (Nat.le_of_ble_eq_true rfl) dX7_isWet_9 ?_
    refine X_istore (lv' := [(4, .int q2), (0, .ref a0), (1, .long a1), (3, .int a3)]) dX7_isWet_12 (by decide) rfl ?_
    refine X_iload 0 dX7_isWet_14 rfl ?_
    refine X_iconst (v := (-1 : Int32)) dX7_isWet_16 (by decide) ?_
    refine X_icmp_eq (tgt := 35) dX7_isWet_17 (by decide) (fun c4 => ?_) (fun c4 => ?_)
    · replace hm := ip c4 hm
      refine X_iconst (v := (0 : Int32)) dX7_isWet_35 (by decide) ?_
      replace hm := Option.some.inj hm
      subst hm
      exact X_zret (v := (0 : Int32)) dX7_isWet_36 rfl (x_nz (Or.inl rfl))
    · replace hm := iq c4 hm
      refine X_iload_n 3 dX7_isWet_20 rfl rfl ?_
      refine X_iload 0 dX7_isWet_21 rfl ?_
      refine X_isub dX7_isWet_23 ?_
      refine X_aload_n 1 dX7_isWet_24 rfl rfl rfl ?_
      refine X_getI fl_X7_44 h0 rfl dX7_isWet_25 ?_
      refine X_icmp_ge (tgt := 35) dX7_isWet_28 (by decide) (fun c5 => ?_) (fun c5 => ?_)
      · replace hm := ip c5 hm
        refine X_iconst (v := (0 : Int32)) dX7_isWet_35 (by decide) ?_
        replace hm := Option.some.inj hm
        subst hm
        exact X_zret (v := (0 : Int32)) dX7_isWet_36 rfl (x_nz (Or.inl rfl))
      · replace hm := iq c5 hm
        refine X_iconst (v := (1 : Int32)) dX7_isWet_31 (by decide) ?_
        refine X_goto (tgt := 36) dX7_isWet_32 (by decide) ?_
        replace hm := Option.some.inj hm
        subst hm
        exact X_zret (v := (1 : Int32)) dX7_isWet_36 rfl (x_nz (Or.inr rfl))
  · replace hm := ip c1 hm
    refine X_iconst (v := (0 : Int32)) dX7_isWet_6 (by decide) ?_
    replace hm := Option.some.inj hm
    subst hm
    exact X_zret (v := (0 : Int32)) dX7_isWet_7 rfl (x_nz (Or.inl rfl))
def mX7_washed_3 (I : Nat → Nat → Int32)  : Nat → Nat → Int64 → Int32 → Int32 → Option (Int64)
  | 0, _, _, _, _ => none
  | f + 1, a0, a1, a3, a4 => (if (5 : Int32) ≤ a4 then (some (0 : Int64)) else (Option.bind (mX0_without a1 a4) (fun q2 => (Option.bind (mX7_isWet I a0 q2 a3) (fun q4 => (if q4 = 0 then (some q2) else (mX7_washed_3 I f a0 a1 a3 (a4 + 1))))))))
set_option maxHeartbeats 400000 in
set_option maxRecDepth 100000 in
theorem kX7_washed_3 {E : xE} {B : Nat} {n : Nat} {K : Nat → Nat × Nat} {P : Nat → Nat → Nat} {I : Nat → Nat → Int32} {L : Nat → Nat → Int64}   {q : Int64} (d : Nat) (hd : 2 ≤ d) (G : GW K P)   : ∀ (f : Nat) (a0 : Nat) (a1 : Int64) (a3 : Int32) (a4 : Int32), K a0 = (6, 0) → mX7_washed_3 I f a0 a1 a3 a4 = some q → X E B d 0 0 yX7_washed cX7_washed 7 (some .long) (some (.long q), (n, K, P, I, L)) 3 [(0, .ref a0), (1, .long a1), (3, .int a3), (4, .int a4)] [] 0 0 (n, K, P, I, L) := by
  obtain ⟨d, rfl⟩ : ∃ d0, d = d0 + 1 := ⟨d - 1, by omega⟩
  intro f
  induction f with
  | zero => intro _ _ _ _ _ hm; exact nomatch (show (none : Option (Int64)) = some q from hm)
  | succ f ih =>
    intro a0 a1 a3 a4 h0 hm
    rw [mX7_washed_3] at hm
    refine X_iload 3 dX7_washed_3 rfl ?_
    refine X_iconst (v := (5 : Int32)) dX7_washed_5 (by decide) ?_
    refine X_icmp_ge (tgt := 36) dX7_washed_6 (by decide) (fun c1 => ?_) (fun c1 => ?_)
    · replace hm := ip c1 hm
      refine X_lconst (v := (0 : Int64)) dX7_washed_36 (by decide) ?_
      replace hm := Option.some.inj hm
      subst hm
      exact X_lret dX7_washed_37 rfl
    · replace hm := iq c1 hm
      refine X_lload_n 1 dX7_washed_9 rfl rfl ?_
      refine X_iload 3 dX7_washed_10 rfl ?_
      obtain ⟨q2, e3, hm⟩ := ob hm
      refine X_cS1 (kX0_without d (by omega) G e3) ml_X7_57 ms_X0_without rfl rfl (Nat.le_refl _) ⟨Nat.le_refl _, Nat.le_refl _⟩ (Nat.le_of_ble_eq_true rfl) dX7_washed_12 ?_
      refine X_lstore (lv' := [(5, .long q2), (0, .ref a0), (1, .long a1), (3, .int a3), (4, .int a4)]) dX7_washed_15 (by decide) rfl ?_
      refine X_aload_n 1 dX7_washed_17 rfl rfl rfl ?_
      refine X_lload 0 dX7_washed_18 rfl ?_
      refine X_iload_n 3 dX7_washed_20 rfl rfl ?_
      obtain ⟨q4, e5, hm⟩ := ob hm
      refine X_cV1 (ci := 6) (kX7_isWet d (by omega) G h0 e5) ml_X7_61 mi_X7_isWet rfl cf_6 h0 rfl rfl (Nat.le_refl _) ⟨Nat.le_refl _, Nat.le_refl _⟩ (Nat.le_of_ble_eq_true rfl) dX7_washed_21 ?_
      refine X_if_ne (tgt := 30) dX7_washed_24 (by decide) (fun c6 => ?_) (fun c6 => ?_)
      · replace hm := iq c6 hm
        refine X_iinc (lv' := [(4, .int (a4 + 1)), (5, .long q2), (0, .ref a0), (1, .long a1), (3, .int a3)]) 4 dX7_washed_30 rfl rfl (by decide) rfl ?_
        refine X_goto (tgt := 3) dX7_washed_33 (by decide) ?_
        exact X_lv [2, 3, 4, 0] rfl (ih _ _ _ _ h0 hm)
      · replace hm := ip c6 hm
        refine X_lload 0 dX7_washed_27 rfl ?_
        replace hm := Option.some.inj hm
        subst hm
        exact X_lret dX7_washed_29 rfl
def mX7_washed (I : Nat → Nat → Int32) (a0 : Nat) (a1 : Int64) (a3 : Int32) : Option (Int64) := (mX7_washed_3 I xf a0 a1 a3 (0 : Int32))
set_option maxHeartbeats 400000 in
set_option maxRecDepth 100000 in
theorem kX7_washed {E : xE} {B : Nat} {n : Nat} {K : Nat → Nat × Nat} {P : Nat → Nat → Nat} {I : Nat → Nat → Int32} {L : Nat → Nat → Int64}  {a0 : Nat} {a1 : Int64} {a3 : Int32} {q : Int64} (d : Nat) (hd : 2 ≤ d) (G : GW K P)  (h0 : K a0 = (6, 0)) (hm : mX7_washed I a0 a1 a3 = some q) : MX E B d 0 0 yX7_washed cX7_washed 7 (some .long) [.ref a0, .long a1, .int a3] (n, K, P, I, L) (some (.long q), (n, K, P, I, L)) := by
  refine MX_of (lv := [(0, .ref a0), (1, .long a1), (3, .int a3)]) (by decide +kernel) (Nat.le_of_ble_eq_true rfl) rfl ?_
  obtain ⟨d, rfl⟩ : ∃ d0, d = d0 + 1 := ⟨d - 1, by omega⟩
  unfold mX7_washed at hm
  refine X_iconst (v := (0 : Int32)) dX7_washed_0 (by decide) ?_
  refine X_istore (lv' := [(4, .int (0 : Int32)), (0, .ref a0), (1, .long a1), (3, .int a3)]) dX7_washed_1 (by decide) rfl ?_
  refine X_lv [1, 2, 3, 0] rfl (kX7_washed_3 _ hd G xf _ _ _ _ h0 hm)
def mX7_afterRain_6 (I : Nat → Nat → Int32)  : Nat → Nat → Int32 → Int32 → Int64 → Int32 → Option (Int64)
  | 0, _, _, _, _, _ => none
  | f + 1, a0, a3, a4, a5, a7 => (if a4 ≤ a7 then (some a5) else (Option.bind (mX7_rainsIn I a0 (a3 + a7)) (fun q2 => (if q2 = 0 then (mX7_afterRain_6 I f a0 a3 a4 a5 (a7 + 1)) else (Option.bind (mX7_washed I a0 a5 (a3 + a7)) (fun q5 => (mX7_afterRain_6 I f a0 a3 a4 q5 (a7 + 1))))))))
set_option maxHeartbeats 400000 in
set_option maxRecDepth 100000 in
theorem kX7_afterRain_6 {E : xE} {B : Nat} {n : Nat} {K : Nat → Nat × Nat} {P : Nat → Nat → Nat} {I : Nat → Nat → Int32} {L : Nat → Nat → Int64}   {q : Int64} (d : Nat) (hd : 3 ≤ d) (G : GW K P)   : ∀ (f : Nat) (a0 : Nat) (a3 : Int32) (a4 : Int32) (a5 : Int64) (a7 : Int32), K a0 = (6, 0) → mX7_afterRain_6 I f a0 a3 a4 a5 a7 = some q → X E B d 0 0 yX7_afterRain cX7_afterRain 8 (some .long) (some (.long q), (n, K, P, I, L)) 6 [(0, .ref a0), (3, .int a3), (4, .int a4), (5, .long a5), (7, .int a7)] [] 0 0 (n, K, P, I, L) := by
  obtain ⟨d, rfl⟩ : ∃ d0, d = d0 + 1 := ⟨d - 1, by omega⟩
  intro f
  induction f with
  | zero => intro _ _ _ _ _ _ hm; exact nomatch (show (none : Option (Int64)) = some q from hm)
  | succ f ih =>
    intro a0 a3 a4 a5 a7 h0 hm
    rw [mX7_afterRain_6] at hm
    refine X_iload 4 dX7_afterRain_6 rfl ?_
    refine X_iload 2 dX7_afterRain_8 rfl ?_
    refine X_icmp_ge (tgt := 42) dX7_afterRain_10 (by decide) (fun c1 => ?_) (fun c1 => ?_)
    · replace hm := ip c1 hm
      refine X_lload 3 dX7_afterRain_42 rfl ?_
      replace hm := Option.some.inj hm
      subst hm
      exact X_lret dX7_afterRain_44 rfl
    · replace hm := iq c1 hm
      refine X_aload_n 0 dX7_afterRain_13 rfl rfl rfl ?_
      refine X_iload_n 1 dX7_afterRain_14 rfl rfl ?_
      refine X_iload 4 dX7_afterRain_15 rfl ?_
      refine X_iadd dX7_afterRain_17 ?_
      obtain ⟨q2, e3, hm⟩ := ob hm
      refine X_cV1 (ci := 6) (kX7_rainsIn d (by omega) G h0 e3) ml_X7_47 mi_X7_rainsIn rfl cf_6 h0 rfl rfl (Nat.le_refl _) ⟨Nat.le_refl _, Nat.le_refl _⟩ (Nat.le_of_ble_eq_true rfl) dX7_afterRain_18 ?_
      refine X_if_eq (tgt := 36) dX7_afterRain_21 (by decide) (fun c4 => ?_) (fun c4 => ?_)
      · replace hm := ip c4 hm
        refine X_iinc (lv' := [(7, .int (a7 + 1)), (0, .ref a0), (3, .int a3), (4, .int a4), (5, .long a5)]) 4 dX7_afterRain_36 rfl rfl (by decide) rfl ?_
        refine X_goto (tgt := 6) dX7_afterRain_39 (by decide) ?_
        exact X_lv [1, 2, 3, 4, 0] rfl (ih _ _ _ _ _ h0 hm)
      · replace hm := iq c4 hm
        refine X_aload_n 0 dX7_afterRain_24 rfl rfl rfl ?_
        refine X_lload 3 dX7_afterRain_25 rfl ?_
        refine X_iload_n 1 dX7_afterRain_27 rfl rfl ?_
        refine X_iload 4 dX7_afterRain_28 rfl ?_
        refine X_iadd dX7_afterRain_30 ?_
        obtain ⟨q5, e6, hm⟩ := ob hm
        refine X_cV1 (ci := 6) (kX7_washed d (by omega) G h0 e6) ml_X7_65 mi_X7_washed rfl cf_6 h0 rfl rfl (Nat.le_refl _) ⟨Nat.le_refl _, Nat.le_refl _⟩ (Nat.le_of_ble_eq_true rfl) dX7_afterRain_31 ?_
        refine X_lstore (lv' := [(5, .long q5), (0, .ref a0), (3, .int a3), (4, .int a4), (7, .int a7)]) dX7_afterRain_34 (by decide) rfl ?_
        refine X_iinc (lv' := [(7, .int (a7 + 1)), (5, .long q5), (0, .ref a0), (3, .int a3), (4, .int a4)]) 4 dX7_afterRain_36 rfl rfl (by decide) rfl ?_
        refine X_goto (tgt := 6) dX7_afterRain_39 (by decide) ?_
        exact X_lv [2, 3, 4, 1, 0] rfl (ih _ _ _ _ _ h0 hm)
def mX7_afterRain (I : Nat → Nat → Int32) (a0 : Nat) (a1 : Int64) (a3 : Int32) (a4 : Int32) : Option (Int64) := (mX7_afterRain_6 I xf a0 a3 a4 a1 (0 : Int32))
set_option maxHeartbeats 400000 in
set_option maxRecDepth 100000 in
theorem kX7_afterRain {E : xE} {B : Nat} {n : Nat} {K : Nat → Nat × Nat} {P : Nat → Nat → Nat} {I : Nat → Nat → Int32} {L : Nat → Nat → Int64}  {a0 : Nat} {a1 : Int64} {a3 : Int32} {a4 : Int32} {q : Int64} (d : Nat) (hd : 3 ≤ d) (G : GW K P)  (h0 : K a0 = (6, 0)) (hm : mX7_afterRain I a0 a1 a3 a4 = some q) : MX E B d 0 0 yX7_afterRain cX7_afterRain 8 (some .long) [.ref a0, .long a1, .int a3, .int a4] (n, K, P, I, L) (some (.long q), (n, K, P, I, L)) := by
  refine MX_of (lv := [(0, .ref a0), (1, .long a1), (3, .int a3), (4, .int a4)]) (by decide +kernel) (Nat.le_of_ble_eq_true rfl) rfl ?_
  obtain ⟨d, rfl⟩ : ∃ d0, d = d0 + 1 := ⟨d - 1, by omega⟩
  unfold mX7_afterRain at hm
  refine X_lload_n 1 dX7_afterRain_0 rfl rfl ?_
  refine X_lstore (lv' := [(5, .long a1), (0, .ref a0), (1, .long a1), (3, .int a3), (4, .int a4)]) dX7_afterRain_1 (by decide) rfl ?_
  refine X_iconst (v := (0 : Int32)) dX7_afterRain_3 (by decide) ?_
  refine X_istore (lv' := [(7, .int (0 : Int32)), (5, .long a1), (0, .ref a0), (1, .long a1), (3, .int a3), (4, .int a4)]) dX7_afterRain_4 (by decide) rfl ?_
  refine X_lv [2, 4, 5, 1, 0] rfl (kX7_afterRain_6 _ hd G xf _ _ _ _ _ h0 hm)
def mX7_ownerOf_3 (I : Nat → Nat → Int32)  : Nat → Nat → Int64 → Int32 → Int32 → Option (Int32)
  | 0, _, _, _, _ => none
  | f + 1, a0, a1, a3, a4 => (if (5 : Int32) ≤ a4 then (some (-1 : Int32)) else (Option.bind (mX0_without a1 a4) (fun q2 => (Option.bind (mX7_isWet I a0 q2 a3) (fun q4 => (if q4 = 0 then (Option.bind (mX0_topPainter q2) (fun q8 => (some q8))) else (if (I a0 4) = 0 then (mX7_ownerOf_3 I f a0 a1 a3 (a4 + 1)) else (some (-1 : Int32)))))))))
set_option maxHeartbeats 400000 in
set_option maxRecDepth 100000 in
theorem kX7_ownerOf_3 {E : xE} {B : Nat} {n : Nat} {K : Nat → Nat × Nat} {P : Nat → Nat → Nat} {I : Nat → Nat → Int32} {L : Nat → Nat → Int64}   {q : Int32} (d : Nat) (hd : 2 ≤ d) (G : GW K P)   : ∀ (f : Nat) (a0 : Nat) (a1 : Int64) (a3 : Int32) (a4 : Int32), K a0 = (6, 0) → mX7_ownerOf_3 I f a0 a1 a3 a4 = some q → X E B d 0 0 yX7_ownerOf cX7_ownerOf 7 (some .int) (some (.int q), (n, K, P, I, L)) 3 [(0, .ref a0), (1, .long a1), (3, .int a3), (4, .int a4)] [] 0 0 (n, K, P, I, L) := by
  obtain ⟨d, rfl⟩ : ∃ d0, d = d0 + 1 := ⟨d - 1, by omega⟩
  intro f
  induction f with
  | zero => intro _ _ _ _ _ hm; exact nomatch (show (none : Option (Int32)) = some q from hm)
  | succ f ih =>
    intro a0 a1 a3 a4 h0 hm
    rw [mX7_ownerOf_3] at hm
    refine X_iload 3 dX7_ownerOf_3 rfl ?_
    refine X_iconst (v := (5 : Int32)) dX7_ownerOf_5 (by decide) ?_
    refine X_icmp_ge (tgt := 48) dX7_ownerOf_6 (by decide) (fun c1 => ?_) (fun c1 => ?_)
    · replace hm := ip c1 hm
      refine X_iconst (v := (-1 : Int32)) dX7_ownerOf_48 (by decide) ?_
      replace hm := Option.some.inj hm
      subst hm
      exact X_iret dX7_ownerOf_49 rfl
    · replace hm := iq c1 hm
      refine X_lload_n 1 dX7_ownerOf_9 rfl rfl ?_
      refine X_iload 3 dX7_ownerOf_10 rfl ?_
      obtain ⟨q2, e3, hm⟩ := ob hm
      refine X_cS1 (kX0_without d (by omega) G e3) ml_X7_57 ms_X0_without rfl rfl (Nat.le_refl _) ⟨Nat.le_refl _, Nat.le_refl _⟩ (Nat.le_of_ble_eq_true rfl) dX7_ownerOf_12 ?_
      refine X_lstore (lv' := [(5, .long q2), (0, .ref a0), (1, .long a1), (3, .int a3), (4, .int a4)]) dX7_ownerOf_15 (by decide) rfl ?_
      refine X_aload_n 1 dX7_ownerOf_17 rfl rfl rfl ?_
      refine X_lload 0 dX7_ownerOf_18 rfl ?_
      refine X_iload_n 3 dX7_ownerOf_20 rfl rfl ?_
      obtain ⟨q4, e5, hm⟩ := ob hm
      refine X_cV1 (ci := 6) (kX7_isWet d (by omega) G h0 e5) ml_X7_61 mi_X7_isWet rfl cf_6 h0 rfl rfl (Nat.le_refl _) ⟨Nat.le_refl _, Nat.le_refl _⟩ (Nat.le_of_ble_eq_true rfl) dX7_ownerOf_21 ?_
      refine X_if_ne (tgt := 33) dX7_ownerOf_24 (by decide) (fun c6 => ?_) (fun c6 => ?_)
      · replace hm := iq c6 hm
        refine X_aload_n 1 dX7_ownerOf_33 rfl rfl rfl ?_
        refine X_getI fl_X7_71 h0 rfl dX7_ownerOf_34 ?_
        refine X_if_eq (tgt := 42) dX7_ownerOf_37 (by decide) (fun c7 => ?_) (fun c7 => ?_)
        · replace hm := ip c7 hm
          refine X_iinc (lv' := [(4, .int (a4 + 1)), (5, .long q2), (0, .ref a0), (1, .long a1), (3, .int a3)]) 4 dX7_ownerOf_42 rfl rfl (by decide) rfl ?_
          refine X_goto (tgt := 3) dX7_ownerOf_45 (by decide) ?_
          exact X_lv [2, 3, 4, 0] rfl (ih _ _ _ _ h0 hm)
        · replace hm := iq c7 hm
          refine X_iconst (v := (-1 : Int32)) dX7_ownerOf_40 (by decide) ?_
          replace hm := Option.some.inj hm
          subst hm
          exact X_iret dX7_ownerOf_41 rfl
      · replace hm := ip c6 hm
        refine X_lload 0 dX7_ownerOf_27 rfl ?_
        obtain ⟨q8, e9, hm⟩ := ob hm
        refine X_cS1 (kX0_topPainter d (by omega) G e9) ml_X7_68 ms_X0_topPainter rfl rfl (Nat.le_refl _) ⟨Nat.le_refl _, Nat.le_refl _⟩ (Nat.le_of_ble_eq_true rfl) dX7_ownerOf_29 ?_
        replace hm := Option.some.inj hm
        subst hm
        exact X_iret dX7_ownerOf_32 rfl
def mX7_ownerOf (I : Nat → Nat → Int32) (a0 : Nat) (a1 : Int64) (a3 : Int32) : Option (Int32) := (mX7_ownerOf_3 I xf a0 a1 a3 (0 : Int32))
set_option maxHeartbeats 400000 in
set_option maxRecDepth 100000 in
theorem kX7_ownerOf {E : xE} {B : Nat} {n : Nat} {K : Nat → Nat × Nat} {P : Nat → Nat → Nat} {I : Nat → Nat → Int32} {L : Nat → Nat → Int64}  {a0 : Nat} {a1 : Int64} {a3 : Int32} {q : Int32} (d : Nat) (hd : 2 ≤ d) (G : GW K P)  (h0 : K a0 = (6, 0)) (hm : mX7_ownerOf I a0 a1 a3 = some q) : MX E B d 0 0 yX7_ownerOf cX7_ownerOf 7 (some .int) [.ref a0, .long a1, .int a3] (n, K, P, I, L) (some (.int q), (n, K, P, I, L)) := by
  refine MX_of (lv := [(0, .ref a0), (1, .long a1), (3, .int a3)]) (by decide +kernel) (Nat.le_of_ble_eq_true rfl) rfl ?_
  obtain ⟨d, rfl⟩ : ∃ d0, d = d0 + 1 := ⟨d - 1, by omega⟩
  unfold mX7_ownerOf at hm
  refine X_iconst (v := (0 : Int32)) dX7_ownerOf_0 (by decide) ?_
  refine X_istore (lv' := [(4, .int (0 : Int32)), (0, .ref a0), (1, .long a1), (3, .int a3)]) dX7_ownerOf_1 (by decide) rfl ?_
  refine X_lv [1, 2, 3, 0] rfl (kX7_ownerOf_3 _ hd G xf _ _ _ _ h0 hm)
def mX1_outcome_13 (I : Nat → Nat → Int32) (L : Nat → Nat → Int64)  : Nat → Nat → Int32 → Int32 → Int32 → Int32 → Option (Int32)
  | 0, _, _, _, _, _ => none
  | f + 1, a1, a2, a3, a4, a5 => (if (I 102 2) ≤ a5 then (some a4) else (if inb a2 5 = true then (if inb a5 6 = true then (Option.bind (mX7_afterRain I a1 (L (104 + ix a2) (ix a5)) a3 (I a1 1)) (fun q4 => (Option.bind (mX7_ownerOf I a1 q4 (a3 + (I a1 1))) (fun q6 => (if q6 = (I 102 3) then (mX1_outcome_13 I L f a1 a2 a3 (a4 + 1) (a5 + 1)) else (if q6 = (I 102 4) then (mX1_outcome_13 I L f a1 a2 a3 (a4 + (-1)) (a5 + 1)) else (mX1_outcome_13 I L f a1 a2 a3 a4 (a5 + 1)))))))) else none) else none))
set_option maxHeartbeats 400000 in
set_option maxRecDepth 100000 in
theorem kX1_outcome_13 {E : xE} {B : Nat} {n : Nat} {K : Nat → Nat × Nat} {P : Nat → Nat → Nat} {I : Nat → Nat → Int32} {L : Nat → Nat → Int64}   {q : Int32} (d : Nat) (hd : 4 ≤ d) (G : GW K P)   : ∀ (f : Nat) (a1 : Nat) (a2 : Int32) (a3 : Int32) (a4 : Int32) (a5 : Int32), K a1 = (6, 0) → mX1_outcome_13 I L f a1 a2 a3 a4 a5 = some q → X E B d 0 0 yX1_outcome cX1_outcome 9 (some .int) (some (.int q), (n, K, P, I, L)) 13 [(0, .ref 102), (1, .ref a1), (2, .int a2), (3, .int a3), (4, .int a4), (5, .int a5)] [] 0 0 (n, K, P, I, L) := by
  obtain ⟨d, rfl⟩ : ∃ d0, d = d0 + 1 := ⟨d - 1, by omega⟩
  intro f
  induction f with
  | zero => intro _ _ _ _ _ _ hm; exact nomatch (show (none : Option (Int32)) = some q from hm)
  | succ f ih =>
    intro a1 a2 a3 a4 a5 h1 hm
    rw [mX1_outcome_13] at hm
    refine X_iload 5 dX1_outcome_13 rfl ?_
    refine X_aload_n 0 dX1_outcome_15 rfl rfl rfl ?_
    refine X_getI fl_X1_31 (g_K102 G) rfl dX1_outcome_16 ?_
    refine X_icmp_ge (tgt := 89) dX1_outcome_19 (by decide) (fun c1 => ?_) (fun c1 => ?_)
    · replace hm := ip c1 hm
      refine X_iload 4 dX1_outcome_89 rfl ?_
      replace hm := Option.some.inj hm
      subst hm
      exact X_iret dX1_outcome_91 rfl
    · replace hm := iq c1 hm
      refine X_aload_n 1 dX1_outcome_22 rfl rfl rfl ?_
      refine X_aload_n 0 dX1_outcome_23 rfl rfl rfl ?_
      refine X_getPe fl_X1_11 (g_K102 G) rfl (g_P102_0 G) dX1_outcome_24 ?_
      refine X_iload_n 2 dX1_outcome_27 rfl rfl ?_
      obtain ⟨g2, hm⟩ := og hm
      refine X_aaldJ (g_K103 G) (by decide) rfl g2 (g_rowP103 G (inb_lt g2)) dX1_outcome_28 ?_
      refine X_iload 5 dX1_outcome_29 rfl ?_
      obtain ⟨g3, hm⟩ := og hm
      refine X_laldJ (g_rowK103 G (inb_lt g2)) g3 rfl dX1_outcome_31 ?_
      refine X_iload_n 3 dX1_outcome_32 rfl rfl ?_
      refine X_aload_n 1 dX1_outcome_33 rfl rfl rfl ?_
      refine X_getI fl_X1_84 h1 rfl dX1_outcome_34 ?_
      obtain ⟨q4, e5, hm⟩ := ob hm
      refine X_cV1 (ci := 6) (kX7_afterRain d (by omega) G h1 e5) ml_X1_81 mi_X7_afterRain rfl cf_6 h1 rfl rfl (Nat.le_refl _) ⟨Nat.le_refl _, Nat.le_refl _⟩ (Nat.le_of_ble_eq_true rfl) dX1_outcome_37 ?_
      refine X_lstore (lv' := [(6, .long q4), (0, .ref 102), (1, .ref a1), (2, .int a2), (3, .int a3), (4, .int a4), (5, .int a5)]) dX1_outcome_40 (by decide) rfl ?_
      refine X_aload_n 2 dX1_outcome_42 rfl rfl rfl ?_
      refine X_lload 0 dX1_outcome_43 rfl ?_
      refine X_iload_n 4 dX1_outcome_45 rfl rfl ?_
      refine X_aload_n 2 dX1_outcome_46 rfl rfl rfl ?_
      refine X_getI fl_X1_84 h1 rfl dX1_outcome_47 ?_
      refine X_iadd dX1_outcome_50 ?_
      obtain ⟨q6, e7, hm⟩ := ob hm
      refine X_cV1 (ci := 6) (kX7_ownerOf d (by omega) G h1 e7) ml_X1_87 mi_X7_ownerOf rfl cf_6 h1 rfl rfl (Nat.le_refl _) ⟨Nat.le_refl _, Nat.le_refl _⟩ (Nat.le_of_ble_eq_true rfl) dX1_outcome_51 ?_
      refine X_istore (lv' := [(8, .int q6), (6, .long q4), (0, .ref 102), (1, .ref a1), (2, .int a2), (3, .int a3), (4, .int a4), (5, .int a5)]) dX1_outcome_54 (by decide) rfl ?_
      refine X_iload 0 dX1_outcome_56 rfl ?_
      refine X_aload_n 2 dX1_outcome_58 rfl rfl rfl ?_
      refine X_getI fl_X1_46 (g_K102 G) rfl dX1_outcome_59 ?_
      refine X_icmp_ne (tgt := 71) dX1_outcome_62 (by decide) (fun c8 => ?_) (fun c8 => ?_)
      · replace hm := iq c8 hm
        refine X_iload 0 dX1_outcome_71 rfl ?_
        refine X_aload_n 2 dX1_outcome_73 rfl rfl rfl ?_
        refine X_getI fl_X1_49 (g_K102 G) rfl dX1_outcome_74 ?_
        refine X_icmp_ne (tgt := 83) dX1_outcome_77 (by decide) (fun c9 => ?_) (fun c9 => ?_)
        · replace hm := iq c9 hm
          refine X_iinc (lv' := [(5, .int (a5 + 1)), (8, .int q6), (6, .long q4), (0, .ref 102), (1, .ref a1), (2, .int a2), (3, .int a3), (4, .int a4)]) 7 dX1_outcome_83 rfl rfl (by decide) rfl ?_
          refine X_goto (tgt := 13) dX1_outcome_86 (by decide) ?_
          exact X_lv [3, 4, 5, 6, 7, 0] rfl (ih _ _ _ _ _ h1 hm)
        · replace hm := ip c9 hm
          refine X_iinc (lv' := [(4, .int (a4 + (-1))), (8, .int q6), (6, .long q4), (0, .ref 102), (1, .ref a1), (2, .int a2), (3, .int a3), (5, .int a5)]) 6 dX1_outcome_80 rfl rfl (by decide) rfl ?_
          refine X_iinc (lv' := [(5, .int (a5 + 1)), (4, .int (a4 + (-1))), (8, .int q6), (6, .long q4), (0, .ref 102), (1, .ref a1), (2, .int a2), (3, .int a3)]) 7 dX1_outcome_83 rfl rfl (by decide) rfl ?_
          refine X_goto (tgt := 13) dX1_outcome_86 (by decide) ?_
          exact X_lv [4, 5, 6, 7, 1, 0] rfl (ih _ _ _ _ _ h1 hm)
      · replace hm := ip c8 hm
        refine X_iinc (lv' := [(4, .int (a4 + 1)), (8, .int q6), (6, .long q4), (0, .ref 102), (1, .ref a1), (2, .int a2), (3, .int a3), (5, .int a5)]) 6 dX1_outcome_65 rfl rfl (by decide) rfl ?_
        refine X_goto (tgt := 83) dX1_outcome_68 (by decide) ?_
        refine X_iinc (lv' := [(5, .int (a5 + 1)), (4, .int (a4 + 1)), (8, .int q6), (6, .long q4), (0, .ref 102), (1, .ref a1), (2, .int a2), (3, .int a3)]) 7 dX1_outcome_83 rfl rfl (by decide) rfl ?_
        refine X_goto (tgt := 13) dX1_outcome_86 (by decide) ?_
        exact X_lv [4, 5, 6, 7, 1, 0] rfl (ih _ _ _ _ _ h1 hm)
def mX1_outcome (I : Nat → Nat → Int32) (L : Nat → Nat → Int64) (a1 : Nat) (a2 : Int32) : Option (Int32) := (mX1_outcome_13 I L xf a1 a2 ((I 102 1) + a2) (0 : Int32) (0 : Int32))
set_option maxHeartbeats 400000 in
set_option maxRecDepth 100000 in
theorem kX1_outcome {E : xE} {B : Nat} {n : Nat} {K : Nat → Nat × Nat} {P : Nat → Nat → Nat} {I : Nat → Nat → Int32} {L : Nat → Nat → Int64}  {a1 : Nat} {a2 : Int32} {q : Int32} (d : Nat) (hd : 4 ≤ d) (G : GW K P)  (h1 : K a1 = (6, 0)) (hm : mX1_outcome I L a1 a2 = some q) : MX E B d 0 0 yX1_outcome cX1_outcome 9 (some .int) [.ref 102, .ref a1, .int a2] (n, K, P, I, L) (some (.int q), (n, K, P, I, L)) := by
  refine MX_of (lv := [(0, .ref 102), (1, .ref a1), (2, .int a2)]) (by decide +kernel) (Nat.le_of_ble_eq_true rfl) rfl ?_
  obtain ⟨d, rfl⟩ : ∃ d0, d = d0 + 1 := ⟨d - 1, by omega⟩
  unfold mX1_outcome at hm
  refine X_aload_n 0 dX1_outcome_0 rfl rfl rfl ?_
  refine X_getI fl_X1_22 (g_K102 G) rfl dX1_outcome_1 ?_
  refine X_iload_n 2 dX1_outcome_4 rfl rfl ?_
  refine X_iadd dX1_outcome_5 ?_
  refine X_istore_n (lv' := [(3, .int ((I 102 1) + a2)), (0, .ref 102), (1, .ref a1), (2, .int a2)]) dX1_outcome_6 rfl (by decide) rfl ?_
  refine X_iconst (v := (0 : Int32)) dX1_outcome_7 (by decide) ?_
  refine X_istore (lv' := [(4, .int (0 : Int32)), (3, .int ((I 102 1) + a2)), (0, .ref 102), (1, .ref a1), (2, .int a2)]) dX1_outcome_8 (by decide) rfl ?_
  refine X_iconst (v := (0 : Int32)) dX1_outcome_10 (by decide) ?_
  refine X_istore (lv' := [(5, .int (0 : Int32)), (4, .int (0 : Int32)), (3, .int ((I 102 1) + a2)), (0, .ref 102), (1, .ref a1), (2, .int a2)]) dX1_outcome_11 (by decide) rfl ?_
  refine X_lv [3, 4, 5, 2, 1, 0] rfl (kX1_outcome_13 _ hd G xf _ _ _ _ _ h1 hm)
def mX1_make_51 (I : Nat → Nat → Int32) (b11 : (Nat → Nat → Int64) → Nat → Int32 → Int32 → Int32 → Int32 → Int32 → Option ((Nat → Nat → Int64))) (L : Nat → Nat → Int64) (a1 : Nat) (a2 : Int32) (a3 : Int32) (a4 : Int32) (a5 : Int32) (a6 : Int32) (t0 : Int64) : Option ((Nat → Nat → Int64)) := (if inb (a2 + (1 : Int32)) 5 = true then (Option.bind (mX7_afterRain I a1 t0 a5 (1 : Int32)) (fun q6 => (if inb a6 6 = true then (b11 (xu L (104 + ix (a2 + (1 : Int32))) (ix a6) q6) a1 a2 a3 a4 a5 (a6 + 1)) else none))) else none)
set_option maxHeartbeats 400000 in
set_option maxRecDepth 100000 in
theorem kX1_make_51 {E : xE} {B : Nat} {n : Nat} {K : Nat → Nat × Nat} {P : Nat → Nat → Nat} {I : Nat → Nat → Int32} {L : Nat → Nat → Int64}  {b11 : (Nat → Nat → Int64) → Nat → Int32 → Int32 → Int32 → Int32 → Int32 → Option ((Nat → Nat → Int64))} {a1 : Nat} {a2 : Int32} {a3 : Int32} {a4 : Int32} {a5 : Int32} {a6 : Int32} {t0 : Int64} {q : (Nat → Nat → Int64)} (d : Nat) (hd : 4 ≤ d) (G : GW K P)  (hb11 : ∀ (L : Nat → Nat → Int64) (a1 : Nat) (a2 : Int32) (a3 : Int32) (a4 : Int32) (a5 : Int32) (a6 : Int32), K a1 = (6, 0) → b11 L a1 a2 a3 a4 a5 a6 = some q → X E B d 0 0 yX1_make cX1_make 11 (none : Option Jvm.ClassFile.FieldType) (none, (n, K, P, I, q)) 11 [(0, .ref 102), (1, .ref a1), (2, .int a2), (3, .int a3), (4, .int a4), (5, .int a5), (6, .int a6)] [] 0 0 (n, K, P, I, L)) (h1 : K a1 = (6, 0)) (hm : mX1_make_51 I b11 L a1 a2 a3 a4 a5 a6 t0 = some q) : X E B d 0 0 yX1_make cX1_make 11 (none : Option Jvm.ClassFile.FieldType) (none, (n, K, P, I, q)) 51 [(0, .ref 102), (1, .ref a1), (2, .int a2), (3, .int a3), (4, .int a4), (5, .int a5), (6, .int a6)] [.long t0] 0 0 (n, K, P, I, L) := by
  obtain ⟨d, rfl⟩ : ∃ d0, d = d0 + 1 := ⟨d - 1, by omega⟩
  unfold mX1_make_51 at hm
  refine X_lstore (lv' := [(9, .long t0), (0, .ref 102), (1, .ref a1), (2, .int a2), (3, .int a3), (4, .int a4), (5, .int a5), (6, .int a6)]) dX1_make_51 (by decide) rfl ?_
  refine X_aload_n 1 dX1_make_53 rfl rfl rfl ?_
  refine X_getPe fl_X1_11 (g_K102 G) rfl (g_P102_0 G) dX1_make_54 ?_
  refine X_iload_n 3 dX1_make_57 rfl rfl ?_
  refine X_iconst (v := (1 : Int32)) dX1_make_58 (by decide) ?_
  refine X_iadd dX1_make_59 ?_
  obtain ⟨g5, hm⟩ := og hm
  refine X_aaldJ (g_K103 G) (by decide) rfl g5 (g_rowP103 G (inb_lt g5)) dX1_make_60 ?_
  refine X_iload 7 dX1_make_61 rfl ?_
  refine X_aload_n 2 dX1_make_63 rfl rfl rfl ?_
  refine X_lload 0 dX1_make_64 rfl ?_
  refine X_iload 6 dX1_make_66 rfl ?_
  refine X_iconst (v := (1 : Int32)) dX1_make_68 (by decide) ?_
  obtain ⟨q6, e7, hm⟩ := ob hm
  refine X_cV1 (ci := 6) (kX7_afterRain d (by omega) G h1 e7) ml_X1_81 mi_X7_afterRain rfl cf_6 h1 rfl rfl (Nat.le_refl _) ⟨Nat.le_refl _, Nat.le_refl _⟩ (Nat.le_of_ble_eq_true rfl) dX1_make_69 ?_
  obtain ⟨g8, hm⟩ := og hm
  refine X_lastJ (g_rowK103 G (inb_lt g5)) g8 rfl dX1_make_72 ?_
  refine X_iinc (lv' := [(6, .int (a6 + 1)), (9, .long t0), (0, .ref 102), (1, .ref a1), (2, .int a2), (3, .int a3), (4, .int a4), (5, .int a5)]) 7 dX1_make_73 rfl rfl (by decide) rfl ?_
  refine X_goto (tgt := 11) dX1_make_76 (by decide) ?_
  exact X_lv [2, 3, 4, 5, 6, 7, 0] rfl (hb11 _ _ _ _ _ _ _ h1 hm)
def mX1_make_11 (I : Nat → Nat → Int32)  : Nat → (Nat → Nat → Int64) → Nat → Int32 → Int32 → Int32 → Int32 → Int32 → Option ((Nat → Nat → Int64))
  | 0, _, _, _, _, _, _, _ => none
  | f + 1, L, a1, a2, a3, a4, a5, a6 => (if (I 102 2) ≤ a6 then (some L) else (if inb a2 5 = true then (if inb a6 6 = true then (if a6 = a3 then (Option.bind (mX0_with (L (104 + ix a2) (ix a6)) a4 a5) (fun q9 => (mX1_make_51 I (fun (L : Nat → Nat → Int64) (a1 : Nat) (a2 : Int32) (a3 : Int32) (a4 : Int32) (a5 : Int32) (a6 : Int32) => mX1_make_11 I f L a1 a2 a3 a4 a5 a6) L a1 a2 a3 a4 a5 a6 q9))) else (mX1_make_51 I (fun (L : Nat → Nat → Int64) (a1 : Nat) (a2 : Int32) (a3 : Int32) (a4 : Int32) (a5 : Int32) (a6 : Int32) => mX1_make_11 I f L a1 a2 a3 a4 a5 a6) L a1 a2 a3 a4 a5 a6 (L (104 + ix a2) (ix a6)))) else none) else none))
set_option maxHeartbeats 400000 in
set_option maxRecDepth 100000 in
theorem kX1_make_11 {E : xE} {B : Nat} {n : Nat} {K : Nat → Nat × Nat} {P : Nat → Nat → Nat} {I : Nat → Nat → Int32}   {q : (Nat → Nat → Int64)} (d : Nat) (hd : 4 ≤ d) (G : GW K P)   : ∀ (f : Nat) (L : Nat → Nat → Int64) (a1 : Nat) (a2 : Int32) (a3 : Int32) (a4 : Int32) (a5 : Int32) (a6 : Int32), K a1 = (6, 0) → mX1_make_11 I f L a1 a2 a3 a4 a5 a6 = some q → X E B d 0 0 yX1_make cX1_make 11 (none : Option Jvm.ClassFile.FieldType) (none, (n, K, P, I, q)) 11 [(0, .ref 102), (1, .ref a1), (2, .int a2), (3, .int a3), (4, .int a4), (5, .int a5), (6, .int a6)] [] 0 0 (n, K, P, I, L) := by
  obtain ⟨d, rfl⟩ : ∃ d0, d = d0 + 1 := ⟨d - 1, by omega⟩
  intro f
  induction f with
  | zero => intro _ _ _ _ _ _ _ _ hm; exact nomatch (show (none : Option ((Nat → Nat → Int64))) = some q from hm)
  | succ f ih =>
    intro L a1 a2 a3 a4 a5 a6 h1 hm
    rw [mX1_make_11] at hm
    refine X_iload 6 dX1_make_11 rfl ?_
    refine X_aload_n 0 dX1_make_13 rfl rfl rfl ?_
    refine X_getI fl_X1_31 (g_K102 G) rfl dX1_make_14 ?_
    refine X_icmp_ge (tgt := 79) dX1_make_17 (by decide) (fun c1 => ?_) (fun c1 => ?_)
    · replace hm := ip c1 hm
      replace hm := Option.some.inj hm
      subst hm
      exact X_vret dX1_make_79 rfl
    · replace hm := iq c1 hm
      refine X_aload_n 0 dX1_make_20 rfl rfl rfl ?_
      refine X_getPe fl_X1_11 (g_K102 G) rfl (g_P102_0 G) dX1_make_21 ?_
      refine X_iload_n 2 dX1_make_24 rfl rfl ?_
      obtain ⟨g2, hm⟩ := og hm
      refine X_aaldJ (g_K103 G) (by decide) rfl g2 (g_rowP103 G (inb_lt g2)) dX1_make_25 ?_
      refine X_iload 6 dX1_make_26 rfl ?_
      obtain ⟨g3, hm⟩ := og hm
      refine X_laldJ (g_rowK103 G (inb_lt g2)) g3 rfl dX1_make_28 ?_
      refine X_lstore (lv' := [(7, .long (L (104 + ix a2) (ix a6))), (0, .ref 102), (1, .ref a1), (2, .int a2), (3, .int a3), (4, .int a4), (5, .int a5), (6, .int a6)]) dX1_make_29 (by decide) rfl ?_
      refine X_iload 7 dX1_make_31 rfl ?_
      refine X_iload_n 4 dX1_make_33 rfl rfl ?_
      refine X_icmp_ne (tgt := 49) dX1_make_34 (by decide) (fun c4 => ?_) (fun c4 => ?_)
      · replace hm := iq c4 hm
        refine X_lload 0 dX1_make_49 rfl ?_
        exact X_lv [1, 2, 3, 4, 5, 6, 7] rfl (kX1_make_51 _ hd G ih h1 hm)
      · replace hm := ip c4 hm
        refine X_lload 0 dX1_make_37 rfl ?_
        refine X_iload 5 dX1_make_39 rfl ?_
        refine X_iload 6 dX1_make_41 rfl ?_
        obtain ⟨q9, e10, hm⟩ := ob hm
        refine X_cS1 (kX0_with d (by omega) G e10) ml_X1_75 ms_X0_with rfl rfl (Nat.le_refl _) ⟨Nat.le_refl _, Nat.le_refl _⟩ (Nat.le_of_ble_eq_true rfl) dX1_make_43 ?_
        refine X_goto (tgt := 51) dX1_make_46 (by decide) ?_
        exact X_lv [1, 2, 3, 4, 5, 6, 7] rfl (kX1_make_51 _ hd G ih h1 hm)
def mX1_make (I : Nat → Nat → Int32) (L : Nat → Nat → Int64) (a1 : Nat) (a2 : Int32) (a3 : Int32) (a4 : Int32) : Option ((Nat → Nat → Int64)) := (mX1_make_11 I xf L a1 a2 a3 a4 ((I 102 1) + a2) (0 : Int32))
set_option maxHeartbeats 400000 in
set_option maxRecDepth 100000 in
theorem kX1_make {E : xE} {B : Nat} {n : Nat} {K : Nat → Nat × Nat} {P : Nat → Nat → Nat} {I : Nat → Nat → Int32} {L : Nat → Nat → Int64}  {a1 : Nat} {a2 : Int32} {a3 : Int32} {a4 : Int32} {q : (Nat → Nat → Int64)} (d : Nat) (hd : 4 ≤ d) (G : GW K P)  (h1 : K a1 = (6, 0)) (hm : mX1_make I L a1 a2 a3 a4 = some q) : MX E B d 0 0 yX1_make cX1_make 11 (none : Option Jvm.ClassFile.FieldType) [.ref 102, .ref a1, .int a2, .int a3, .int a4] (n, K, P, I, L) (none, (n, K, P, I, q)) := by
  refine MX_of (lv := [(0, .ref 102), (1, .ref a1), (2, .int a2), (3, .int a3), (4, .int a4)]) (by decide +kernel) (Nat.le_of_ble_eq_true rfl) rfl ?_
  obtain ⟨d, rfl⟩ : ∃ d0, d = d0 + 1 := ⟨d - 1, by omega⟩
  unfold mX1_make at hm
  refine X_aload_n 0 dX1_make_0 rfl rfl rfl ?_
  refine X_getI fl_X1_22 (g_K102 G) rfl dX1_make_1 ?_
  refine X_iload_n 2 dX1_make_4 rfl rfl ?_
  refine X_iadd dX1_make_5 ?_
  refine X_istore (lv' := [(5, .int ((I 102 1) + a2)), (0, .ref 102), (1, .ref a1), (2, .int a2), (3, .int a3), (4, .int a4)]) dX1_make_6 (by decide) rfl ?_
  refine X_iconst (v := (0 : Int32)) dX1_make_8 (by decide) ?_
  refine X_istore (lv' := [(6, .int (0 : Int32)), (5, .int ((I 102 1) + a2)), (0, .ref 102), (1, .ref a1), (2, .int a2), (3, .int a3), (4, .int a4)]) dX1_make_9 (by decide) rfl ?_
  refine X_lv [2, 3, 4, 5, 6, 1, 0] rfl (kX1_make_11 _ hd G xf _ _ _ _ _ _ _ h1 hm)
def mX1_play_102 (r_X1_play : (Nat → Nat → Int32) → (Nat → Nat → Int64) → Nat → Int32 → Option (Int32 × (Nat → Nat → Int32) × (Nat → Nat → Int64))) (b33 : (Nat → Nat → Int32) → (Nat → Nat → Int64) → Nat → Int32 → Int32 → Int32 → Int32 → Option (Int32 × (Nat → Nat → Int32) × (Nat → Nat → Int64))) (I : Nat → Nat → Int32) (L : Nat → Nat → Int64) (a1 : Nat) (a2 : Int32) (a3 : Int32) (a5 : Int32) (a6 : Int32) : Option (Int32 × (Nat → Nat → Int32) × (Nat → Nat → Int64)) := (if a2 = 0 then (b33 (xu I 102 6 a5) L a1 a2 a3 a6 (a5 + 1)) else (b33 (xu I 102 6 (I 102 6)) L a1 a2 a3 a6 (a5 + 1)))
set_option maxHeartbeats 400000 in
set_option maxRecDepth 100000 in
theorem kX1_play_102 {E : xE} {B : Nat} {n : Nat} {K : Nat → Nat × Nat} {P : Nat → Nat → Nat} {I : Nat → Nat → Int32} {L : Nat → Nat → Int64} {r_X1_play : (Nat → Nat → Int32) → (Nat → Nat → Int64) → Nat → Int32 → Option (Int32 × (Nat → Nat → Int32) × (Nat → Nat → Int64))} {b33 : (Nat → Nat → Int32) → (Nat → Nat → Int64) → Nat → Int32 → Int32 → Int32 → Int32 → Option (Int32 × (Nat → Nat → Int32) × (Nat → Nat → Int64))} {a1 : Nat} {a2 : Int32} {a3 : Int32} {a5 : Int32} {a6 : Int32} {q : Int32 × (Nat → Nat → Int32) × (Nat → Nat → Int64)} (d : Nat) (hd : 5 ≤ d) (G : GW K P) (dr : Nat) (hdr : 1 + dr ≤ d) (hr_X1_play : ∀ {n : Nat} {I : Nat → Nat → Int32} {L : Nat → Nat → Int64} {a1 : Nat} {a2 : Int32} {q : Int32 × (Nat → Nat → Int32) × (Nat → Nat → Int64)}, GW K P → K a1 = (6, 0) → r_X1_play I L a1 a2 = some q → MX E B dr 0 0 yX1_play cX1_play 7 (some .int) [.ref 102, .ref a1, .int a2] (n, K, P, I, L) (some (.int q.1), (n, K, P, q.2.1, q.2.2))) (hb33 : ∀ (I : Nat → Nat → Int32) (L : Nat → Nat → Int64) (a1 : Nat) (a2 : Int32) (a3 : Int32) (a4 : Int32) (a5 : Int32), K a1 = (6, 0) → b33 I L a1 a2 a3 a4 a5 = some q → X E B d 0 0 yX1_play cX1_play 7 (some .int) (some (.int q.1), (n, K, P, q.2.1, q.2.2)) 33 [(0, .ref 102), (1, .ref a1), (2, .int a2), (3, .int a3), (4, .int a4), (5, .int a5)] [] 0 0 (n, K, P, I, L)) (h1 : K a1 = (6, 0)) (hm : mX1_play_102 r_X1_play b33 I L a1 a2 a3 a5 a6 = some q) : X E B d 0 0 yX1_play cX1_play 7 (some .int) (some (.int q.1), (n, K, P, q.2.1, q.2.2)) 102 [(0, .ref 102), (1, .ref a1), (2, .int a2), (3, .int a3), (5, .int a5), (6, .int a6)] [] 0 0 (n, K, P, I, L) := by
  obtain ⟨d, rfl⟩ : ∃ d0, d = d0 + 1 := ⟨d - 1, by omega⟩
  unfold mX1_play_102 at hm
  refine X_iload 5 dX1_play_102 rfl ?_
  refine X_istore (lv' := [(4, .int a6), (0, .ref 102), (1, .ref a1), (2, .int a2), (3, .int a3), (5, .int a5), (6, .int a6)]) dX1_play_104 (by decide) rfl ?_
  refine X_aload_n 1 dX1_play_106 rfl rfl rfl ?_
  refine X_iload_n 3 dX1_play_107 rfl rfl ?_
  refine X_if_ne (tgt := 116) dX1_play_108 (by decide) (fun c10 => ?_) (fun c10 => ?_)
  · replace hm := iq c10 hm
    refine X_aload_n 1 dX1_play_116 rfl rfl rfl ?_
    refine X_getI fl_X1_61 (g_K102 G) rfl dX1_play_117 ?_
    refine X_putI fl_X1_61 (g_K102 G) rfl rfl dX1_play_120 ?_
    refine X_iinc (lv' := [(5, .int (a5 + 1)), (4, .int a6), (0, .ref 102), (1, .ref a1), (2, .int a2), (3, .int a3), (6, .int a6)]) 5 dX1_play_123 rfl rfl (by decide) rfl ?_
    refine X_goto (tgt := 33) dX1_play_126 (by decide) ?_
    exact X_lv [2, 3, 4, 5, 1, 0] rfl (hb33 _ _ _ _ _ _ _ h1 hm)
  · replace hm := ip c10 hm
    refine X_iload 5 dX1_play_111 rfl ?_
    refine X_goto (tgt := 120) dX1_play_113 (by decide) ?_
    refine X_putI fl_X1_61 (g_K102 G) rfl rfl dX1_play_120 ?_
    refine X_iinc (lv' := [(5, .int (a5 + 1)), (4, .int a6), (0, .ref 102), (1, .ref a1), (2, .int a2), (3, .int a3), (6, .int a6)]) 5 dX1_play_123 rfl rfl (by decide) rfl ?_
    refine X_goto (tgt := 33) dX1_play_126 (by decide) ?_
    exact X_lv [2, 3, 4, 5, 1, 0] rfl (hb33 _ _ _ _ _ _ _ h1 hm)
def mX1_play_62 (r_X1_play : (Nat → Nat → Int32) → (Nat → Nat → Int64) → Nat → Int32 → Option (Int32 × (Nat → Nat → Int32) × (Nat → Nat → Int64))) (b33 : (Nat → Nat → Int32) → (Nat → Nat → Int64) → Nat → Int32 → Int32 → Int32 → Int32 → Option (Int32 × (Nat → Nat → Int32) × (Nat → Nat → Int64))) (I : Nat → Nat → Int32) (L : Nat → Nat → Int64) (a1 : Nat) (a2 : Int32) (a3 : Int32) (a4 : Int32) (a5 : Int32) (t0 : Int32) (t1 : Int32) (t2 : Int32) (t3 : Nat) : Option (Int32 × (Nat → Nat → Int32) × (Nat → Nat → Int64)) := (Option.bind (mX1_make I L t3 t2 t1 t0) (fun q5 => (Option.bind (r_X1_play I q5 a1 (a2 + (1 : Int32))) (fun q7 => (if a5 = (-1 : Int32) then (mX1_play_102 r_X1_play b33 q7.2.1 q7.2.2 a1 a2 a3 a5 q7.1) else (if a3 = 0 then (if a4 ≤ q7.1 then (b33 q7.2.1 q7.2.2 a1 a2 a3 a4 (a5 + 1)) else (mX1_play_102 r_X1_play b33 q7.2.1 q7.2.2 a1 a2 a3 a5 q7.1)) else (if q7.1 ≤ a4 then (b33 q7.2.1 q7.2.2 a1 a2 a3 a4 (a5 + 1)) else (mX1_play_102 r_X1_play b33 q7.2.1 q7.2.2 a1 a2 a3 a5 q7.1))))))))
set_option maxHeartbeats 400000 in
set_option maxRecDepth 100000 in
theorem kX1_play_62 {E : xE} {B : Nat} {n : Nat} {K : Nat → Nat × Nat} {P : Nat → Nat → Nat} {I : Nat → Nat → Int32} {L : Nat → Nat → Int64} {r_X1_play : (Nat → Nat → Int32) → (Nat → Nat → Int64) → Nat → Int32 → Option (Int32 × (Nat → Nat → Int32) × (Nat → Nat → Int64))} {b33 : (Nat → Nat → Int32) → (Nat → Nat → Int64) → Nat → Int32 → Int32 → Int32 → Int32 → Option (Int32 × (Nat → Nat → Int32) × (Nat → Nat → Int64))} {a1 : Nat} {a2 : Int32} {a3 : Int32} {a4 : Int32} {a5 : Int32} {t0 : Int32} {t1 : Int32} {t2 : Int32} {t3 : Nat} {q : Int32 × (Nat → Nat → Int32) × (Nat → Nat → Int64)} (d : Nat) (hd : 5 ≤ d) (G : GW K P) (dr : Nat) (hdr : 1 + dr ≤ d) (hr_X1_play : ∀ {n : Nat} {I : Nat → Nat → Int32} {L : Nat → Nat → Int64} {a1 : Nat} {a2 : Int32} {q : Int32 × (Nat → Nat → Int32) × (Nat → Nat → Int64)}, GW K P → K a1 = (6, 0) → r_X1_play I L a1 a2 = some q → MX E B dr 0 0 yX1_play cX1_play 7 (some .int) [.ref 102, .ref a1, .int a2] (n, K, P, I, L) (some (.int q.1), (n, K, P, q.2.1, q.2.2))) (hb33 : ∀ (I : Nat → Nat → Int32) (L : Nat → Nat → Int64) (a1 : Nat) (a2 : Int32) (a3 : Int32) (a4 : Int32) (a5 : Int32), K a1 = (6, 0) → b33 I L a1 a2 a3 a4 a5 = some q → X E B d 0 0 yX1_play cX1_play 7 (some .int) (some (.int q.1), (n, K, P, q.2.1, q.2.2)) 33 [(0, .ref 102), (1, .ref a1), (2, .int a2), (3, .int a3), (4, .int a4), (5, .int a5)] [] 0 0 (n, K, P, I, L)) (h1 : K a1 = (6, 0)) (ht3 : K t3 = (6, 0)) (hm : mX1_play_62 r_X1_play b33 I L a1 a2 a3 a4 a5 t0 t1 t2 t3 = some q) : X E B d 0 0 yX1_play cX1_play 7 (some .int) (some (.int q.1), (n, K, P, q.2.1, q.2.2)) 62 [(0, .ref 102), (1, .ref a1), (2, .int a2), (3, .int a3), (4, .int a4), (5, .int a5)] [.int t0, .int t1, .int t2, .ref t3, .ref 102] 0 0 (n, K, P, I, L) := by
  obtain ⟨d, rfl⟩ : ∃ d0, d = d0 + 1 := ⟨d - 1, by omega⟩
  unfold mX1_play_62 at hm
  obtain ⟨q5, e6, hm⟩ := ob hm
  refine X_cV0 (ci := 0) (kX1_make d (by omega) G ht3 e6) ml_X1_68 mi_X1_make rfl cf_0 (g_K102 G) rfl rfl (Nat.le_refl _) ⟨Nat.le_refl _, Nat.le_refl _⟩ (Nat.le_of_ble_eq_true rfl) dX1_play_62 ?_
  refine X_aload_n 0 dX1_play_65 rfl rfl rfl ?_
  refine X_aload_n 1 dX1_play_66 rfl rfl rfl ?_
  refine X_iload_n 2 dX1_play_67 rfl rfl ?_
  refine X_iconst (v := (1 : Int32)) dX1_play_68 (by decide) ?_
  refine X_iadd dX1_play_69 ?_
  obtain ⟨q7, e8, hm⟩ := ob hm
  refine X_cV1 (ci := 0) (hr_X1_play G h1 e8) ml_X1_72 mi_X1_play rfl cf_0 (g_K102 G) rfl rfl (by omega) ⟨Nat.le_refl _, Nat.le_refl _⟩ (Nat.le_of_ble_eq_true rfl) dX1_play_70 ?_
  refine X_istore (lv' := [(6, .int q7.1), (0, .ref 102), (1, .ref a1), (2, .int a2), (3, .int a3), (4, .int a4), (5, .int a5)]) dX1_play_73 (by decide) rfl ?_
  refine X_iload 6 dX1_play_75 rfl ?_
  refine X_iconst (v := (-1 : Int32)) dX1_play_77 (by decide) ?_
  refine X_icmp_eq (tgt := 102) dX1_play_78 (by decide) (fun c9 => ?_) (fun c9 => ?_)
  · replace hm := ip c9 hm
    exact X_lv [1, 2, 3, 4, 6, 0] rfl (kX1_play_102 _ hd G dr hdr hr_X1_play hb33 h1 hm)
  · replace hm := iq c9 hm
    refine X_iload_n 4 dX1_play_81 rfl rfl ?_
    refine X_if_eq (tgt := 95) dX1_play_82 (by decide) (fun c11 => ?_) (fun c11 => ?_)
    · replace hm := ip c11 hm
      refine X_iload 0 dX1_play_95 rfl ?_
      refine X_iload 5 dX1_play_97 rfl ?_
      refine X_icmp_ge (tgt := 123) dX1_play_99 (by decide) (fun c12 => ?_) (fun c12 => ?_)
      · replace hm := ip c12 hm
        refine X_iinc (lv' := [(5, .int (a5 + 1)), (6, .int q7.1), (0, .ref 102), (1, .ref a1), (2, .int a2), (3, .int a3), (4, .int a4)]) 6 dX1_play_123 rfl rfl (by decide) rfl ?_
        refine X_goto (tgt := 33) dX1_play_126 (by decide) ?_
        exact X_lv [2, 3, 4, 5, 6, 0] rfl (hb33 _ _ _ _ _ _ _ h1 hm)
      · replace hm := iq c12 hm
        exact X_lv [1, 2, 3, 4, 6, 0] rfl (kX1_play_102 _ hd G dr hdr hr_X1_play hb33 h1 hm)
    · replace hm := iq c11 hm
      refine X_iload 0 dX1_play_85 rfl ?_
      refine X_iload 5 dX1_play_87 rfl ?_
      refine X_icmp_le (tgt := 123) dX1_play_89 (by decide) (fun c13 => ?_) (fun c13 => ?_)
      · replace hm := ip c13 hm
        refine X_iinc (lv' := [(5, .int (a5 + 1)), (6, .int q7.1), (0, .ref 102), (1, .ref a1), (2, .int a2), (3, .int a3), (4, .int a4)]) 6 dX1_play_123 rfl rfl (by decide) rfl ?_
        refine X_goto (tgt := 33) dX1_play_126 (by decide) ?_
        exact X_lv [2, 3, 4, 5, 6, 0] rfl (hb33 _ _ _ _ _ _ _ h1 hm)
      · replace hm := iq c13 hm
        refine X_goto (tgt := 102) dX1_play_92 (by decide) ?_
        exact X_lv [1, 2, 3, 4, 6, 0] rfl (kX1_play_102 _ hd G dr hdr hr_X1_play hb33 h1 hm)
def mX1_play_33 (r_X1_play : (Nat → Nat → Int32) → (Nat → Nat → Int64) → Nat → Int32 → Option (Int32 × (Nat → Nat → Int32) × (Nat → Nat → Int64)))  : Nat → (Nat → Nat → Int32) → (Nat → Nat → Int64) → Nat → Int32 → Int32 → Int32 → Int32 → Option (Int32 × (Nat → Nat → Int32) × (Nat → Nat → Int64))
  | 0, _, _, _, _, _, _, _ => none
  | f + 1, I, L, a1, a2, a3, a4, a5 => (if (I 102 2) ≤ a5 then (some (a4, I, L)) else (if a3 = 0 then (mX1_play_62 r_X1_play (fun (I : Nat → Nat → Int32) (L : Nat → Nat → Int64) (a1 : Nat) (a2 : Int32) (a3 : Int32) (a4 : Int32) (a5 : Int32) => mX1_play_33 r_X1_play f I L a1 a2 a3 a4 a5) I L a1 a2 a3 a4 a5 (I 102 4) a5 a2 a1) else (mX1_play_62 r_X1_play (fun (I : Nat → Nat → Int32) (L : Nat → Nat → Int64) (a1 : Nat) (a2 : Int32) (a3 : Int32) (a4 : Int32) (a5 : Int32) => mX1_play_33 r_X1_play f I L a1 a2 a3 a4 a5) I L a1 a2 a3 a4 a5 (I 102 3) a5 a2 a1)))
set_option maxHeartbeats 400000 in
set_option maxRecDepth 100000 in
theorem kX1_play_33 {E : xE} {B : Nat} {n : Nat} {K : Nat → Nat × Nat} {P : Nat → Nat → Nat} {r_X1_play : (Nat → Nat → Int32) → (Nat → Nat → Int64) → Nat → Int32 → Option (Int32 × (Nat → Nat → Int32) × (Nat → Nat → Int64))}  {q : Int32 × (Nat → Nat → Int32) × (Nat → Nat → Int64)} (d : Nat) (hd : 5 ≤ d) (G : GW K P) (dr : Nat) (hdr : 1 + dr ≤ d) (hr_X1_play : ∀ {n : Nat} {I : Nat → Nat → Int32} {L : Nat → Nat → Int64} {a1 : Nat} {a2 : Int32} {q : Int32 × (Nat → Nat → Int32) × (Nat → Nat → Int64)}, GW K P → K a1 = (6, 0) → r_X1_play I L a1 a2 = some q → MX E B dr 0 0 yX1_play cX1_play 7 (some .int) [.ref 102, .ref a1, .int a2] (n, K, P, I, L) (some (.int q.1), (n, K, P, q.2.1, q.2.2)))  : ∀ (f : Nat) (I : Nat → Nat → Int32) (L : Nat → Nat → Int64) (a1 : Nat) (a2 : Int32) (a3 : Int32) (a4 : Int32) (a5 : Int32), K a1 = (6, 0) → mX1_play_33 r_X1_play f I L a1 a2 a3 a4 a5 = some q → X E B d 0 0 yX1_play cX1_play 7 (some .int) (some (.int q.1), (n, K, P, q.2.1, q.2.2)) 33 [(0, .ref 102), (1, .ref a1), (2, .int a2), (3, .int a3), (4, .int a4), (5, .int a5)] [] 0 0 (n, K, P, I, L) := by
  obtain ⟨d, rfl⟩ : ∃ d0, d = d0 + 1 := ⟨d - 1, by omega⟩
  intro f
  induction f with
  | zero => intro _ _ _ _ _ _ _ _ hm; exact nomatch (show (none : Option (Int32 × (Nat → Nat → Int32) × (Nat → Nat → Int64))) = some q from hm)
  | succ f ih =>
    intro I L a1 a2 a3 a4 a5 h1 hm
    rw [mX1_play_33] at hm
    refine X_iload 5 dX1_play_33 rfl ?_
    refine X_aload_n 0 dX1_play_35 rfl rfl rfl ?_
    refine X_getI fl_X1_31 (g_K102 G) rfl dX1_play_36 ?_
    refine X_icmp_ge (tgt := 129) dX1_play_39 (by decide) (fun c3 => ?_) (fun c3 => ?_)
    · replace hm := ip c3 hm
      refine X_iload 4 dX1_play_129 rfl ?_
      replace hm := Option.some.inj hm
      subst hm
      exact X_iret dX1_play_131 rfl
    · replace hm := iq c3 hm
      refine X_aload_n 0 dX1_play_42 rfl rfl rfl ?_
      refine X_aload_n 1 dX1_play_43 rfl rfl rfl ?_
      refine X_iload_n 2 dX1_play_44 rfl rfl ?_
      refine X_iload 5 dX1_play_45 rfl ?_
      refine X_iload_n 3 dX1_play_47 rfl rfl ?_
      refine X_if_eq (tgt := 58) dX1_play_48 (by decide) (fun c4 => ?_) (fun c4 => ?_)
      · replace hm := ip c4 hm
        refine X_aload_n 0 dX1_play_58 rfl rfl rfl ?_
        refine X_getI fl_X1_49 (g_K102 G) rfl dX1_play_59 ?_
        exact kX1_play_62 _ hd G dr hdr hr_X1_play ih h1 h1 hm
      · replace hm := iq c4 hm
        refine X_aload_n 0 dX1_play_51 rfl rfl rfl ?_
        refine X_getI fl_X1_46 (g_K102 G) rfl dX1_play_52 ?_
        refine X_goto (tgt := 62) dX1_play_55 (by decide) ?_
        exact kX1_play_62 _ hd G dr hdr hr_X1_play ih h1 h1 hm
def mX1_play_26 (r_X1_play : (Nat → Nat → Int32) → (Nat → Nat → Int64) → Nat → Int32 → Option (Int32 × (Nat → Nat → Int32) × (Nat → Nat → Int64))) (I : Nat → Nat → Int32) (L : Nat → Nat → Int64) (a1 : Nat) (a2 : Int32) (t0 : Int32) : Option (Int32 × (Nat → Nat → Int32) × (Nat → Nat → Int64)) := (mX1_play_33 r_X1_play xf I L a1 a2 t0 (0 : Int32) (-1 : Int32))
set_option maxHeartbeats 400000 in
set_option maxRecDepth 100000 in
theorem kX1_play_26 {E : xE} {B : Nat} {n : Nat} {K : Nat → Nat × Nat} {P : Nat → Nat → Nat} {I : Nat → Nat → Int32} {L : Nat → Nat → Int64} {r_X1_play : (Nat → Nat → Int32) → (Nat → Nat → Int64) → Nat → Int32 → Option (Int32 × (Nat → Nat → Int32) × (Nat → Nat → Int64))}  {a1 : Nat} {a2 : Int32} {t0 : Int32} {q : Int32 × (Nat → Nat → Int32) × (Nat → Nat → Int64)} (d : Nat) (hd : 5 ≤ d) (G : GW K P) (dr : Nat) (hdr : 1 + dr ≤ d) (hr_X1_play : ∀ {n : Nat} {I : Nat → Nat → Int32} {L : Nat → Nat → Int64} {a1 : Nat} {a2 : Int32} {q : Int32 × (Nat → Nat → Int32) × (Nat → Nat → Int64)}, GW K P → K a1 = (6, 0) → r_X1_play I L a1 a2 = some q → MX E B dr 0 0 yX1_play cX1_play 7 (some .int) [.ref 102, .ref a1, .int a2] (n, K, P, I, L) (some (.int q.1), (n, K, P, q.2.1, q.2.2)))  (h1 : K a1 = (6, 0)) (hm : mX1_play_26 r_X1_play I L a1 a2 t0 = some q) : X E B d 0 0 yX1_play cX1_play 7 (some .int) (some (.int q.1), (n, K, P, q.2.1, q.2.2)) 26 [(0, .ref 102), (1, .ref a1), (2, .int a2)] [.int t0] 0 0 (n, K, P, I, L) := by
  obtain ⟨d, rfl⟩ : ∃ d0, d = d0 + 1 := ⟨d - 1, by omega⟩
  unfold mX1_play_26 at hm
  refine X_istore_n (lv' := [(3, .int t0), (0, .ref 102), (1, .ref a1), (2, .int a2)]) dX1_play_26 rfl (by decide) rfl ?_
  refine X_iconst (v := (0 : Int32)) dX1_play_27 (by decide) ?_
  refine X_istore (lv' := [(4, .int (0 : Int32)), (3, .int t0), (0, .ref 102), (1, .ref a1), (2, .int a2)]) dX1_play_28 (by decide) rfl ?_
  refine X_iconst (v := (-1 : Int32)) dX1_play_30 (by decide) ?_
  refine X_istore (lv' := [(5, .int (-1 : Int32)), (4, .int (0 : Int32)), (3, .int t0), (0, .ref 102), (1, .ref a1), (2, .int a2)]) dX1_play_31 (by decide) rfl ?_
  refine X_lv [3, 4, 5, 2, 1, 0] rfl (kX1_play_33 _ hd G dr hdr hr_X1_play xf _ _ _ _ _ _ _ h1 hm)
def mX1_play (r_X1_play : (Nat → Nat → Int32) → (Nat → Nat → Int64) → Nat → Int32 → Option (Int32 × (Nat → Nat → Int32) × (Nat → Nat → Int64))) (I : Nat → Nat → Int32) (L : Nat → Nat → Int64) (a1 : Nat) (a2 : Int32) : Option (Int32 × (Nat → Nat → Int32) × (Nat → Nat → Int64)) := (if a2 < (I 102 5) then (if (xrem a2 (2 : Int32)) = 0 then (mX1_play_26 r_X1_play I L a1 a2 (1 : Int32)) else (mX1_play_26 r_X1_play I L a1 a2 (0 : Int32))) else (Option.bind (mX1_outcome I L a1 a2) (fun q14 => (some (q14, I, L)))))
set_option maxHeartbeats 400000 in
set_option maxRecDepth 100000 in
theorem kX1_play {E : xE} {B : Nat} {n : Nat} {K : Nat → Nat × Nat} {P : Nat → Nat → Nat} {I : Nat → Nat → Int32} {L : Nat → Nat → Int64} {r_X1_play : (Nat → Nat → Int32) → (Nat → Nat → Int64) → Nat → Int32 → Option (Int32 × (Nat → Nat → Int32) × (Nat → Nat → Int64))} {a1 : Nat} {a2 : Int32} {q : Int32 × (Nat → Nat → Int32) × (Nat → Nat → Int64)} (d : Nat) (hd : 5 ≤ d) (G : GW K P) (dr : Nat) (hdr : 1 + dr ≤ d) (hr_X1_play : ∀ {n : Nat} {I : Nat → Nat → Int32} {L : Nat → Nat → Int64} {a1 : Nat} {a2 : Int32} {q : Int32 × (Nat → Nat → Int32) × (Nat → Nat → Int64)}, GW K P → K a1 = (6, 0) → r_X1_play I L a1 a2 = some q → MX E B dr 0 0 yX1_play cX1_play 7 (some .int) [.ref 102, .ref a1, .int a2] (n, K, P, I, L) (some (.int q.1), (n, K, P, q.2.1, q.2.2))) (h1 : K a1 = (6, 0)) (hm : mX1_play r_X1_play I L a1 a2 = some q) : MX E B d 0 0 yX1_play cX1_play 7 (some .int) [.ref 102, .ref a1, .int a2] (n, K, P, I, L) (some (.int q.1), (n, K, P, q.2.1, q.2.2)) := by
  refine MX_of (lv := [(0, .ref 102), (1, .ref a1), (2, .int a2)]) (by decide +kernel) (Nat.le_of_ble_eq_true rfl) rfl ?_
  obtain ⟨d, rfl⟩ : ∃ d0, d = d0 + 1 := ⟨d - 1, by omega⟩
  unfold mX1_play at hm
  refine X_iload_n 2 dX1_play_0 rfl rfl ?_
  refine X_aload_n 0 dX1_play_1 rfl rfl rfl ?_
  refine X_getI fl_X1_58 (g_K102 G) rfl dX1_play_2 ?_
  refine X_icmp_lt (tgt := 15) dX1_play_5 (by decide) (fun c1 => ?_) (fun c1 => ?_)
  · replace hm := ip c1 hm
    refine X_iload_n 2 dX1_play_15 rfl rfl ?_
    refine X_iconst (v := (2 : Int32)) dX1_play_16 (by decide) ?_
    refine X_irem dX1_play_17 (by decide) ?_
    refine X_if_ne (tgt := 25) dX1_play_18 (by decide) (fun c2 => ?_) (fun c2 => ?_)
    · replace hm := iq c2 hm
      refine X_iconst (v := (0 : Int32)) dX1_play_25 (by decide) ?_
      exact kX1_play_26 _ hd G dr hdr hr_X1_play h1 hm
    · replace hm := ip c2 hm
      refine X_iconst (v := (1 : Int32)) dX1_play_21 (by decide) ?_
      refine X_goto (tgt := 26) dX1_play_22 (by decide) ?_
      exact kX1_play_26 _ hd G dr hdr hr_X1_play h1 hm
  · replace hm := iq c1 hm
    refine X_aload_n 0 dX1_play_8 rfl rfl rfl ?_
    refine X_aload_n 1 dX1_play_9 rfl rfl rfl ?_
    refine X_iload_n 2 dX1_play_10 rfl rfl ?_
    obtain ⟨q14, e15, hm⟩ := ob hm
    refine X_cV1 (ci := 0) (kX1_outcome d (by omega) G h1 e15) ml_X1_64 mi_X1_outcome rfl cf_0 (g_K102 G) rfl rfl (Nat.le_refl _) ⟨Nat.le_refl _, Nat.le_refl _⟩ (Nat.le_of_ble_eq_true rfl) dX1_play_11 ?_
    replace hm := Option.some.inj hm
    subst hm
    exact X_iret dX1_play_14 rfl
def zX1_play  : Nat → (Nat → Nat → Int32) → (Nat → Nat → Int64) → Nat → Int32 → Option (Int32 × (Nat → Nat → Int32) × (Nat → Nat → Int64))
  | 0, _, _, _, _ => none
  | f + 1, I, L, a1, a2 => mX1_play (fun I L a1 a2 => zX1_play  f I L a1 a2)  I L a1 a2
theorem zgX1_play {E : xE} {B : Nat} {K : Nat → Nat × Nat} {P : Nat → Nat → Nat}  (G : GW K P) : ∀ (f : Nat) {n : Nat} {I : Nat → Nat → Int32} {L : Nat → Nat → Int64} {a1 : Nat} {a2 : Int32} {q : Int32 × (Nat → Nat → Int32) × (Nat → Nat → Int64)} (d : Nat), 5 + f ≤ d → K a1 = (6, 0) → zX1_play  f I L a1 a2 = some q → MX E B d 0 0 yX1_play cX1_play 7 (some .int) [.ref 102, .ref a1, .int a2] (n, K, P, I, L) (some (.int q.1), (n, K, P, q.2.1, q.2.2)) := by
  intro f
  induction f with
  | zero => intro n _ _ _ _ q d hd h1 hm; exact nomatch (show (none : Option (Int32 × (Nat → Nat → Int32) × (Nat → Nat → Int64))) = some q from hm)
  | succ f ih =>
    intro n I L a1 a2 q d hd h1 hm
    rw [zX1_play] at hm
    exact kX1_play d (by omega) G (d - 1) (by omega) (fun {n} {I} {L} {a1} {a2} {q} G2 h1x hm2 => ih (d - 1) (by omega) h1x hm2) h1 hm
theorem zkX1_play {E : xE} {B : Nat} {n : Nat} {K : Nat → Nat × Nat} {P : Nat → Nat → Nat} {I : Nat → Nat → Int32} {L : Nat → Nat → Int64} {a1 : Nat} {a2 : Int32} {q : Int32 × (Nat → Nat → Int32) × (Nat → Nat → Int64)} (d : Nat) (hd : 15 ≤ d) (G : GW K P) (h1 : K a1 = (6, 0)) (hm : zX1_play  10 I L a1 a2 = some q) : MX E B d 0 0 yX1_play cX1_play 7 (some .int) [.ref 102, .ref a1, .int a2] (n, K, P, I, L) (some (.int q.1), (n, K, P, q.2.1, q.2.2)) := zgX1_play G 10 d (by omega) h1 hm
def mJ7_fill_53178_5   : Nat → (Nat → Nat → Int32) → Nat → Nat → Int32 → Int32 → Int32 → Option ((Nat → Nat → Int32))
  | 0, _, _, _, _, _, _ => none
  | f + 1, I, a0, z0, a1, a2, a3 => (if a3 ≤ a2 then (some I) else (if inb a2 z0 = true then (mJ7_fill_53178_5 f (xu I a0 (ix a2) a1) a0 z0 a1 (a2 + 1) a3) else none))
set_option maxHeartbeats 400000 in
set_option maxRecDepth 100000 in
theorem kJ7_fill_53178_5 {E : xE} {B : Nat} {n : Nat} {K : Nat → Nat × Nat} {P : Nat → Nat → Nat} {L : Nat → Nat → Int64}   {q : (Nat → Nat → Int32)} (d : Nat) (hd : 0 ≤ d) (G : GW K P)   : ∀ (f : Nat) (I : Nat → Nat → Int32) (a0 : Nat) (z0 : Nat) (a1 : Int32) (a2 : Int32) (a3 : Int32), K a0 = (20, z0) → mJ7_fill_53178_5 f I a0 z0 a1 a2 a3 = some q → X E B d 0 0 yJ7_fill_53178 cJ7_fill_53178 4 (none : Option Jvm.ClassFile.FieldType) (none, (n, K, P, q, L)) 5 [(0, .ref a0), (1, .int a1), (2, .int a2), (3, .int a3)] [] 0 0 (n, K, P, I, L) := by
  intro f
  induction f with
  | zero => intro _ _ _ _ _ _ _ hm; exact nomatch (show (none : Option ((Nat → Nat → Int32))) = some q from hm)
  | succ f ih =>
    intro I a0 z0 a1 a2 a3 h0 hm
    rw [mJ7_fill_53178_5] at hm
    refine X_iload_n 2 dJ7_fill_53178_5 rfl rfl ?_
    refine X_iload_n 3 dJ7_fill_53178_6 rfl rfl ?_
    refine X_icmp_ge (tgt := 20) dJ7_fill_53178_7 (by decide) (fun c1 => ?_) (fun c1 => ?_)
    · replace hm := ip c1 hm
      replace hm := Option.some.inj hm
      subst hm
      exact X_vret dJ7_fill_53178_20 rfl
    · replace hm := iq c1 hm
      refine X_aload_n 0 dJ7_fill_53178_10 rfl rfl rfl ?_
      refine X_iload_n 2 dJ7_fill_53178_11 rfl rfl ?_
      refine X_iload_n 1 dJ7_fill_53178_12 rfl rfl ?_
      obtain ⟨g2, hm⟩ := og hm
      refine X_iastJ h0 g2 rfl dJ7_fill_53178_13 ?_
      refine X_iinc (lv' := [(2, .int (a2 + 1)), (0, .ref a0), (1, .int a1), (3, .int a3)]) 2 dJ7_fill_53178_14 rfl rfl (by decide) rfl ?_
      refine X_goto (tgt := 5) dJ7_fill_53178_17 (by decide) ?_
      exact X_lv [1, 2, 0, 3] rfl (ih _ _ _ _ _ _ h0 hm)
def mJ7_fill_53178  (I : Nat → Nat → Int32) (a0 : Nat) (z0 : Nat) (a1 : Int32) : Option ((Nat → Nat → Int32)) := (mJ7_fill_53178_5 xf I a0 z0 a1 (0 : Int32) (nI z0))
set_option maxHeartbeats 400000 in
set_option maxRecDepth 100000 in
theorem kJ7_fill_53178 {E : xE} {B : Nat} {n : Nat} {K : Nat → Nat × Nat} {P : Nat → Nat → Nat} {I : Nat → Nat → Int32} {L : Nat → Nat → Int64}  {a0 : Nat} {z0 : Nat} {a1 : Int32} {q : (Nat → Nat → Int32)} (d : Nat) (hd : 0 ≤ d) (G : GW K P)  (h0 : K a0 = (20, z0)) (hm : mJ7_fill_53178 I a0 z0 a1 = some q) : MX E B d 0 0 yJ7_fill_53178 cJ7_fill_53178 4 (none : Option Jvm.ClassFile.FieldType) [.ref a0, .int a1] (n, K, P, I, L) (none, (n, K, P, q, L)) := by
  refine MX_ofJ (lv := [(0, .ref a0), (1, .int a1)]) (by decide +kernel) (Nat.le_of_ble_eq_true rfl) rfl ?_
  unfold mJ7_fill_53178 at hm
  refine X_iconst (v := (0 : Int32)) dJ7_fill_53178_0 (by decide) ?_
  refine X_istore_n (lv' := [(2, .int (0 : Int32)), (0, .ref a0), (1, .int a1)]) dJ7_fill_53178_1 rfl (by decide) rfl ?_
  refine X_aload_n 1 dJ7_fill_53178_2 rfl rfl rfl ?_
  refine X_alen h0 (by decide) (by decide) dJ7_fill_53178_3 ?_
  refine X_istore_n (lv' := [(3, .int (nI z0)), (2, .int (0 : Int32)), (0, .ref a0), (1, .int a1)]) dJ7_fill_53178_4 rfl (by decide) rfl ?_
  refine X_lv [2, 3, 1, 0] rfl (kJ7_fill_53178_5 _ hd G xf _ _ _ _ _ _ h0 hm)
def mX2_forgetRents  (I : Nat → Nat → Int32) : Option ((Nat → Nat → Int32)) := (Option.bind (mJ7_fill_53178 I 101 4 (0 : Int32)) (fun q1 => (some q1)))
set_option maxHeartbeats 400000 in
set_option maxRecDepth 100000 in
theorem kX2_forgetRents {E : xE} {B : Nat} {n : Nat} {K : Nat → Nat × Nat} {P : Nat → Nat → Nat} {I : Nat → Nat → Int32} {L : Nat → Nat → Int64}   {q : (Nat → Nat → Int32)} (d : Nat) (hd : 1 ≤ d) (G : GW K P)   (hm : mX2_forgetRents I = some q) : MX E B d 0 0 yX2_forgetRents cX2_forgetRents 1 (none : Option Jvm.ClassFile.FieldType) [.ref 95] (n, K, P, I, L) (none, (n, K, P, q, L)) := by
  refine MX_of (lv := [(0, .ref 95)]) (by decide +kernel) (Nat.le_of_ble_eq_true rfl) rfl ?_
  obtain ⟨d, rfl⟩ : ∃ d0, d = d0 + 1 := ⟨d - 1, by omega⟩
  unfold mX2_forgetRents at hm
  refine X_aload_n 0 dX2_forgetRents_0 rfl rfl rfl ?_
  refine X_getPe fl_X2_32 (g_K95 G) rfl (g_P95_5 G) dX2_forgetRents_1 ?_
  refine X_iconst (v := (0 : Int32)) dX2_forgetRents_4 (by decide) ?_
  obtain ⟨q1, e2, hm⟩ := ob hm
  refine X_cS0 (kJ7_fill_53178 d (by omega) G (g_K101 G) e2) ml_X2_35 ms_J7_fill_53178 rfl rfl (Nat.le_refl _) ⟨Nat.le_refl _, Nat.le_refl _⟩ (Nat.le_of_ble_eq_true rfl) dX2_forgetRents_5 ?_
  replace hm := Option.some.inj hm
  subst hm
  exact X_vret dX2_forgetRents_8 rfl
def mX2_gotByAll_4 (I : Nat → Nat → Int32)  : Nat → Int32 → Int32 → Option (Int32)
  | 0, _, _ => none
  | f + 1, a1, a2 => (if (4 : Int32) ≤ a2 then (some a1) else (if inb a2 4 = true then (mX2_gotByAll_4 I f (a1 + (I 101 (ix a2))) (a2 + 1)) else none))
set_option maxHeartbeats 400000 in
set_option maxRecDepth 100000 in
theorem kX2_gotByAll_4 {E : xE} {B : Nat} {n : Nat} {K : Nat → Nat × Nat} {P : Nat → Nat → Nat} {I : Nat → Nat → Int32} {L : Nat → Nat → Int64}   {q : Int32} (d : Nat) (hd : 0 ≤ d) (G : GW K P)   : ∀ (f : Nat) (a1 : Int32) (a2 : Int32), mX2_gotByAll_4 I f a1 a2 = some q → X E B d 0 0 yX2_gotByAll cX2_gotByAll 3 (some .int) (some (.int q), (n, K, P, I, L)) 4 [(0, .ref 95), (1, .int a1), (2, .int a2)] [] 0 0 (n, K, P, I, L) := by
  intro f
  induction f with
  | zero => intro _ _ hm; exact nomatch (show (none : Option (Int32)) = some q from hm)
  | succ f ih =>
    intro a1 a2 hm
    rw [mX2_gotByAll_4] at hm
    refine X_iload_n 2 dX2_gotByAll_4 rfl rfl ?_
    refine X_iconst (v := (4 : Int32)) dX2_gotByAll_5 (by decide) ?_
    refine X_icmp_ge (tgt := 24) dX2_gotByAll_6 (by decide) (fun c1 => ?_) (fun c1 => ?_)
    · replace hm := ip c1 hm
      refine X_iload_n 1 dX2_gotByAll_24 rfl rfl ?_
      replace hm := Option.some.inj hm
      subst hm
      exact X_iret dX2_gotByAll_25 rfl
    · replace hm := iq c1 hm
      refine X_iload_n 1 dX2_gotByAll_9 rfl rfl ?_
      refine X_aload_n 0 dX2_gotByAll_10 rfl rfl rfl ?_
      refine X_getPe fl_X2_32 (g_K95 G) rfl (g_P95_5 G) dX2_gotByAll_11 ?_
      refine X_iload_n 2 dX2_gotByAll_14 rfl rfl ?_
      obtain ⟨g2, hm⟩ := og hm
      refine X_ialdJ (g_K101 G) g2 rfl dX2_gotByAll_15 ?_
      refine X_iadd dX2_gotByAll_16 ?_
      refine X_istore_n (lv' := [(1, .int (a1 + (I 101 (ix a2)))), (0, .ref 95), (2, .int a2)]) dX2_gotByAll_17 rfl (by decide) rfl ?_
      refine X_iinc (lv' := [(2, .int (a2 + 1)), (1, .int (a1 + (I 101 (ix a2)))), (0, .ref 95)]) 2 dX2_gotByAll_18 rfl rfl (by decide) rfl ?_
      refine X_goto (tgt := 4) dX2_gotByAll_21 (by decide) ?_
      exact X_lv [2, 1, 0] rfl (ih _ _ hm)
def mX2_gotByAll (I : Nat → Nat → Int32)  : Option (Int32) := (mX2_gotByAll_4 I xf (0 : Int32) (0 : Int32))
set_option maxHeartbeats 400000 in
set_option maxRecDepth 100000 in
theorem kX2_gotByAll {E : xE} {B : Nat} {n : Nat} {K : Nat → Nat × Nat} {P : Nat → Nat → Nat} {I : Nat → Nat → Int32} {L : Nat → Nat → Int64}   {q : Int32} (d : Nat) (hd : 0 ≤ d) (G : GW K P)   (hm : mX2_gotByAll I = some q) : MX E B d 0 0 yX2_gotByAll cX2_gotByAll 3 (some .int) [.ref 95] (n, K, P, I, L) (some (.int q), (n, K, P, I, L)) := by
  refine MX_of (lv := [(0, .ref 95)]) (by decide +kernel) (Nat.le_of_ble_eq_true rfl) rfl ?_
  unfold mX2_gotByAll at hm
  refine X_iconst (v := (0 : Int32)) dX2_gotByAll_0 (by decide) ?_
  refine X_istore_n (lv' := [(1, .int (0 : Int32)), (0, .ref 95)]) dX2_gotByAll_1 rfl (by decide) rfl ?_
  refine X_iconst (v := (0 : Int32)) dX2_gotByAll_2 (by decide) ?_
  refine X_istore_n (lv' := [(2, .int (0 : Int32)), (1, .int (0 : Int32)), (0, .ref 95)]) dX2_gotByAll_3 rfl (by decide) rfl ?_
  refine X_lv [2, 1, 0] rfl (kX2_gotByAll_4 _ hd G xf _ _  hm)
def mX7_oneFor  (a0 : Int32) : Option (Int32) := (if 0 ≤ a0 then (some (xshl (1 : Int32) (a0 * (4 : Int32)))) else (some (0 : Int32)))
set_option maxHeartbeats 400000 in
set_option maxRecDepth 100000 in
theorem kX7_oneFor {E : xE} {B : Nat} {n : Nat} {K : Nat → Nat × Nat} {P : Nat → Nat → Nat} {I : Nat → Nat → Int32} {L : Nat → Nat → Int64}  {a0 : Int32} {q : Int32} (d : Nat) (hd : 0 ≤ d) (G : GW K P)   (hm : mX7_oneFor a0 = some q) : MX E B d 0 0 yX7_oneFor cX7_oneFor 1 (some .int) [.int a0] (n, K, P, I, L) (some (.int q), (n, K, P, I, L)) := by
  refine MX_of (lv := [(0, .int a0)]) (by decide +kernel) (Nat.le_of_ble_eq_true rfl) rfl ?_
  unfold mX7_oneFor at hm
  refine X_iload_n 0 dX7_oneFor_0 rfl rfl ?_
  refine X_if_ge (tgt := 8) dX7_oneFor_1 (by decide) (fun c1 => ?_) (fun c1 => ?_)
  · replace hm := ip c1 hm
    refine X_iconst (v := (1 : Int32)) dX7_oneFor_8 (by decide) ?_
    refine X_iload_n 0 dX7_oneFor_9 rfl rfl ?_
    refine X_iconst (v := (4 : Int32)) dX7_oneFor_10 (by decide) ?_
    refine X_imul dX7_oneFor_11 ?_
    refine X_ishl dX7_oneFor_12 ?_
    replace hm := Option.some.inj hm
    subst hm
    exact X_iret dX7_oneFor_13 rfl
  · replace hm := iq c1 hm
    refine X_iconst (v := (0 : Int32)) dX7_oneFor_4 (by decide) ?_
    refine X_goto (tgt := 13) dX7_oneFor_5 (by decide) ?_
    replace hm := Option.some.inj hm
    subst hm
    exact X_iret dX7_oneFor_13 rfl
def mX7_countOf  (a0 : Int32) (a1 : Int32) : Option (Int32) := (some ((xshr a0 (a1 * (4 : Int32))) &&& (15 : Int32)))
set_option maxHeartbeats 400000 in
set_option maxRecDepth 100000 in
theorem kX7_countOf {E : xE} {B : Nat} {n : Nat} {K : Nat → Nat × Nat} {P : Nat → Nat → Nat} {I : Nat → Nat → Int32} {L : Nat → Nat → Int64}  {a0 : Int32} {a1 : Int32} {q : Int32} (d : Nat) (hd : 0 ≤ d) (G : GW K P)   (hm : mX7_countOf a0 a1 = some q) : MX E B d 0 0 yX7_countOf cX7_countOf 2 (some .int) [.int a0, .int a1] (n, K, P, I, L) (some (.int q), (n, K, P, I, L)) := by
  refine MX_of (lv := [(0, .int a0), (1, .int a1)]) (by decide +kernel) (Nat.le_of_ble_eq_true rfl) rfl ?_
  unfold mX7_countOf at hm
  refine X_iload_n 0 dX7_countOf_0 rfl rfl ?_
  refine X_iload_n 1 dX7_countOf_1 rfl rfl ?_
  refine X_iconst (v := (4 : Int32)) dX7_countOf_2 (by decide) ?_
  refine X_imul dX7_countOf_3 ?_
  refine X_ishr dX7_countOf_4 ?_
  refine X_bipush (v := (15 : Int32)) dX7_countOf_5 (by decide) ?_
  refine X_iand dX7_countOf_7 ?_
  replace hm := Option.some.inj hm
  subst hm
  exact X_iret dX7_countOf_8 rfl
def mX7_ownerBy_8  (e54 : Int32 → Int32 → Int32 → Int32 → Option (Int32)) : Nat → Int32 → Int32 → Int32 → Int32 → Int32 → Int32 → Option (Int32)
  | 0, _, _, _, _, _, _ => none
  | f + 1, a0, a1, a2, a3, a4, a5 => (if (4 : Int32) ≤ a5 then (e54 a1 a2 a3 a4) else (Option.bind (mX7_countOf a0 a5) (fun q2 => (if q2 ≤ a4 then (if q2 = a4 then (mX7_ownerBy_8 e54 f a0 a1 a2 (-1 : Int32) a4 (a5 + 1)) else (mX7_ownerBy_8 e54 f a0 a1 a2 a3 a4 (a5 + 1))) else (mX7_ownerBy_8 e54 f a0 a1 a2 a5 q2 (a5 + 1))))))
set_option maxHeartbeats 400000 in
set_option maxRecDepth 100000 in
theorem kX7_ownerBy_8 {E : xE} {B : Nat} {n : Nat} {K : Nat → Nat × Nat} {P : Nat → Nat → Nat} {I : Nat → Nat → Int32} {L : Nat → Nat → Int64}  {e54 : Int32 → Int32 → Int32 → Int32 → Option (Int32)} {q : Int32} (d : Nat) (hd : 1 ≤ d) (G : GW K P)  (he54 : ∀ (a1 : Int32) (a2 : Int32) (a3 : Int32) (a4 : Int32), e54 a1 a2 a3 a4 = some q → X E B d 0 0 yX7_ownerBy cX7_ownerBy 7 (some .int) (some (.int q), (n, K, P, I, L)) 54 [(1, .int a1), (2, .int a2), (3, .int a3), (4, .int a4)] [] 0 0 (n, K, P, I, L)) : ∀ (f : Nat) (a0 : Int32) (a1 : Int32) (a2 : Int32) (a3 : Int32) (a4 : Int32) (a5 : Int32), mX7_ownerBy_8 e54 f a0 a1 a2 a3 a4 a5 = some q → X E B d 0 0 yX7_ownerBy cX7_ownerBy 7 (some .int) (some (.int q), (n, K, P, I, L)) 8 [(0, .int a0), (1, .int a1), (2, .int a2), (3, .int a3), (4, .int a4), (5, .int a5)] [] 0 0 (n, K, P, I, L) := by
  obtain ⟨d, rfl⟩ : ∃ d0, d = d0 + 1 := ⟨d - 1, by omega⟩
  intro f
  induction f with
  | zero => intro _ _ _ _ _ _ hm; exact nomatch (show (none : Option (Int32)) = some q from hm)
  | succ f ih =>
    intro a0 a1 a2 a3 a4 a5 hm
    rw [mX7_ownerBy_8] at hm
    refine X_iload 5 dX7_ownerBy_8 rfl ?_
    refine X_iconst (v := (4 : Int32)) dX7_ownerBy_10 (by decide) ?_
    refine X_icmp_ge (tgt := 54) dX7_ownerBy_11 (by decide) (fun c1 => ?_) (fun c1 => ?_)
    · replace hm := ip c1 hm
      exact X_lv [1, 2, 3, 4] rfl (he54 _ _ _ _ hm)
    · replace hm := iq c1 hm
      refine X_iload_n 0 dX7_ownerBy_14 rfl rfl ?_
      refine X_iload 5 dX7_ownerBy_15 rfl ?_
      obtain ⟨q2, e3, hm⟩ := ob hm
      refine X_cS1 (kX7_countOf d (by omega) G e3) ml_X7_90 ms_X7_countOf rfl rfl (Nat.le_refl _) ⟨Nat.le_refl _, Nat.le_refl _⟩ (Nat.le_of_ble_eq_true rfl) dX7_ownerBy_17 ?_
      refine X_istore (lv' := [(6, .int q2), (0, .int a0), (1, .int a1), (2, .int a2), (3, .int a3), (4, .int a4), (5, .int a5)]) dX7_ownerBy_20 (by decide) rfl ?_
      refine X_iload 0 dX7_ownerBy_22 rfl ?_
      refine X_iload 5 dX7_ownerBy_24 rfl ?_
      refine X_icmp_le (tgt := 39) dX7_ownerBy_26 (by decide) (fun c4 => ?_) (fun c4 => ?_)
      · replace hm := ip c4 hm
        refine X_iload 0 dX7_ownerBy_39 rfl ?_
        refine X_iload 5 dX7_ownerBy_41 rfl ?_
        refine X_icmp_ne (tgt := 48) dX7_ownerBy_43 (by decide) (fun c5 => ?_) (fun c5 => ?_)
        · replace hm := iq c5 hm
          refine X_iinc (lv' := [(5, .int (a5 + 1)), (6, .int q2), (0, .int a0), (1, .int a1), (2, .int a2), (3, .int a3), (4, .int a4)]) 6 dX7_ownerBy_48 rfl rfl (by decide) rfl ?_
          refine X_goto (tgt := 8) dX7_ownerBy_51 (by decide) ?_
          exact X_lv [2, 3, 4, 5, 6, 0] rfl (ih _ _ _ _ _ _ hm)
        · replace hm := ip c5 hm
          refine X_iconst (v := (-1 : Int32)) dX7_ownerBy_46 (by decide) ?_
          refine X_istore_n (lv' := [(3, .int (-1 : Int32)), (6, .int q2), (0, .int a0), (1, .int a1), (2, .int a2), (4, .int a4), (5, .int a5)]) dX7_ownerBy_47 rfl (by decide) rfl ?_
          refine X_iinc (lv' := [(5, .int (a5 + 1)), (3, .int (-1 : Int32)), (6, .int q2), (0, .int a0), (1, .int a1), (2, .int a2), (4, .int a4)]) 6 dX7_ownerBy_48 rfl rfl (by decide) rfl ?_
          refine X_goto (tgt := 8) dX7_ownerBy_51 (by decide) ?_
          exact X_lv [3, 4, 5, 1, 6, 0] rfl (ih _ _ _ _ _ _ hm)
      · replace hm := iq c4 hm
        refine X_iload 0 dX7_ownerBy_29 rfl ?_
        refine X_istore (lv' := [(4, .int q2), (6, .int q2), (0, .int a0), (1, .int a1), (2, .int a2), (3, .int a3), (5, .int a5)]) dX7_ownerBy_31 (by decide) rfl ?_
        refine X_iload 6 dX7_ownerBy_33 rfl ?_
        refine X_istore_n (lv' := [(3, .int a5), (4, .int q2), (6, .int q2), (0, .int a0), (1, .int a1), (2, .int a2), (5, .int a5)]) dX7_ownerBy_35 rfl (by decide) rfl ?_
        refine X_goto (tgt := 48) dX7_ownerBy_36 (by decide) ?_
        refine X_iinc (lv' := [(5, .int (a5 + 1)), (3, .int a5), (4, .int q2), (6, .int q2), (0, .int a0), (1, .int a1), (2, .int a2)]) 6 dX7_ownerBy_48 rfl rfl (by decide) rfl ?_
        refine X_goto (tgt := 8) dX7_ownerBy_51 (by decide) ?_
        exact X_lv [4, 5, 6, 1, 2, 0] rfl (ih _ _ _ _ _ _ hm)
def mX7_ownerBy  (a0 : Int32) (a1 : Int32) (a2 : Int32) : Option (Int32) := (mX7_ownerBy_8 (fun (a1_6 : Int32) (a2_6 : Int32) (a3_6 : Int32) (a4_6 : Int32) => (if (a4_6 * (100 : Int32)) < (a2_6 * a1_6) then (some (-1 : Int32)) else (some a3_6))) xf a0 a1 a2 (-1 : Int32) (0 : Int32) (0 : Int32))
set_option maxHeartbeats 400000 in
set_option maxRecDepth 100000 in
theorem kX7_ownerBy {E : xE} {B : Nat} {n : Nat} {K : Nat → Nat × Nat} {P : Nat → Nat → Nat} {I : Nat → Nat → Int32} {L : Nat → Nat → Int64}  {a0 : Int32} {a1 : Int32} {a2 : Int32} {q : Int32} (d : Nat) (hd : 1 ≤ d) (G : GW K P)   (hm : mX7_ownerBy a0 a1 a2 = some q) : MX E B d 0 0 yX7_ownerBy cX7_ownerBy 7 (some .int) [.int a0, .int a1, .int a2] (n, K, P, I, L) (some (.int q), (n, K, P, I, L)) := by
  refine MX_of (lv := [(0, .int a0), (1, .int a1), (2, .int a2)]) (by decide +kernel) (Nat.le_of_ble_eq_true rfl) rfl ?_
  obtain ⟨d, rfl⟩ : ∃ d0, d = d0 + 1 := ⟨d - 1, by omega⟩
  unfold mX7_ownerBy at hm
  refine X_iconst (v := (-1 : Int32)) dX7_ownerBy_0 (by decide) ?_
  refine X_istore_n (lv' := [(3, .int (-1 : Int32)), (0, .int a0), (1, .int a1), (2, .int a2)]) dX7_ownerBy_1 rfl (by decide) rfl ?_
  refine X_iconst (v := (0 : Int32)) dX7_ownerBy_2 (by decide) ?_
  refine X_istore (lv' := [(4, .int (0 : Int32)), (3, .int (-1 : Int32)), (0, .int a0), (1, .int a1), (2, .int a2)]) dX7_ownerBy_3 (by decide) rfl ?_
  refine X_iconst (v := (0 : Int32)) dX7_ownerBy_5 (by decide) ?_
  refine X_istore (lv' := [(5, .int (0 : Int32)), (4, .int (0 : Int32)), (3, .int (-1 : Int32)), (0, .int a0), (1, .int a1), (2, .int a2)]) dX7_ownerBy_6 (by decide) rfl ?_
  refine X_lv [3, 4, 5, 2, 1, 0] rfl (kX7_ownerBy_8 _ hd G (fun a1_6 a2_6 a3_6 a4_6 hm => ?_) xf _ _ _ _ _ _  hm)
  refine X_iload 3 dX7_ownerBy_54 rfl ?_
  refine X_bipush (v := (100 : Int32)) dX7_ownerBy_56 (by decide) ?_
  refine X_imul dX7_ownerBy_58 ?_
  refine X_iload_n 1 dX7_ownerBy_59 rfl rfl ?_
  refine X_iload_n 0 dX7_ownerBy_60 rfl rfl ?_
  refine X_imul dX7_ownerBy_61 ?_
  refine X_icmp_lt (tgt := 69) dX7_ownerBy_62 (by decide) (fun c7 => ?_) (fun c7 => ?_)
  · replace hm := ip c7 hm
    refine X_iconst (v := (-1 : Int32)) dX7_ownerBy_69 (by decide) ?_
    replace hm := Option.some.inj hm
    subst hm
    exact X_iret dX7_ownerBy_70 rfl
  · replace hm := iq c7 hm
    refine X_iload_n 2 dX7_ownerBy_65 rfl rfl ?_
    refine X_goto (tgt := 70) dX7_ownerBy_66 (by decide) ?_
    replace hm := Option.some.inj hm
    subst hm
    exact X_iret dX7_ownerBy_70 rfl
def mX2_seeThing_15 (L : Nat → Nat → Int64) (e72 : (Nat → Nat → Int32) → Nat → Int32 → Int32 → Option ((Nat → Nat → Int32))) : Nat → (Nat → Nat → Int32) → Nat → Nat → Int32 → Int32 → Int32 → Int32 → Option ((Nat → Nat → Int32))
  | 0, _, _, _, _, _, _, _ => none
  | f + 1, I, a1, a2, a3, a4, a5, a6 => (if inb a3 4 = true then (if (a5 + (I (a1 + 2) (ix a3))) ≤ a6 then (e72 I a1 a3 a4) else (if inb a6 16 = true then (Option.bind (mX7_ownerOf I a1 (L (a2 + 1) (ix a6)) (I a2 2)) (fun q5 => (if inb a6 16 = true then (if inb a6 16 = true then (Option.bind (mX7_oneFor ((xu I 98 (ix a6) q5) 98 (ix a6))) (fun q9 => (mX2_seeThing_15 L e72 f (xu I 98 (ix a6) q5) a1 a2 a3 (a4 + q9) a5 (a6 + 1)))) else none) else none))) else none)) else none)
set_option maxHeartbeats 400000 in
set_option maxRecDepth 100000 in
theorem kX2_seeThing_15 {E : xE} {B : Nat} {n : Nat} {K : Nat → Nat × Nat} {P : Nat → Nat → Nat} {L : Nat → Nat → Int64}  {e72 : (Nat → Nat → Int32) → Nat → Int32 → Int32 → Option ((Nat → Nat → Int32))} {q : (Nat → Nat → Int32)} (d : Nat) (hd : 3 ≤ d) (G : GW K P)  (he72 : ∀ (I : Nat → Nat → Int32) (a1 : Nat) (a3 : Int32) (a4 : Int32), K a1 = (6, 0) → e72 I a1 a3 a4 = some q → X E B d 0 0 yX2_seeThing cX2_seeThing 7 (none : Option Jvm.ClassFile.FieldType) (none, (n, K, P, q, L)) 72 [(0, .ref 95), (1, .ref a1), (3, .int a3), (4, .int a4)] [] 0 0 (n, K, P, I, L)) : ∀ (f : Nat) (I : Nat → Nat → Int32) (a1 : Nat) (a2 : Nat) (a3 : Int32) (a4 : Int32) (a5 : Int32) (a6 : Int32), K a1 = (6, 0) → K a2 = (5, 0) → mX2_seeThing_15 L e72 f I a1 a2 a3 a4 a5 a6 = some q → X E B d 0 0 yX2_seeThing cX2_seeThing 7 (none : Option Jvm.ClassFile.FieldType) (none, (n, K, P, q, L)) 15 [(0, .ref 95), (1, .ref a1), (2, .ref a2), (3, .int a3), (4, .int a4), (5, .int a5), (6, .int a6)] [] 0 0 (n, K, P, I, L) := by
  obtain ⟨d, rfl⟩ : ∃ d0, d = d0 + 1 := ⟨d - 1, by omega⟩
  intro f
  induction f with
  | zero => intro _ _ _ _ _ _ _ _ _ hm; exact nomatch (show (none : Option ((Nat → Nat → Int32))) = some q from hm)
  | succ f ih =>
    intro I a1 a2 a3 a4 a5 a6 h1 h2 hm
    rw [mX2_seeThing_15] at hm
    refine X_iload 6 dX2_seeThing_15 rfl ?_
    refine X_iload 5 dX2_seeThing_17 rfl ?_
    refine X_aload_n 1 dX2_seeThing_19 rfl rfl rfl ?_
    refine X_getPe fl_X2_111 h1 rfl (gl6_P10 G h1) dX2_seeThing_20 ?_
    refine X_iload_n 3 dX2_seeThing_23 rfl rfl ?_
    obtain ⟨g2, hm⟩ := og hm
    refine X_ialdJ (gl6_K2 G h1) g2 rfl dX2_seeThing_24 ?_
    refine X_iadd dX2_seeThing_25 ?_
    refine X_icmp_ge (tgt := 72) dX2_seeThing_26 (by decide) (fun c3 => ?_) (fun c3 => ?_)
    · replace hm := ip c3 hm
      exact X_lv [0, 1, 3, 4] rfl (he72 _ _ _ _ h1 hm)
    · replace hm := iq c3 hm
      refine X_aload_n 0 dX2_seeThing_29 rfl rfl rfl ?_
      refine X_getPe fl_X2_22 (g_K95 G) rfl (g_P95_2 G) dX2_seeThing_30 ?_
      refine X_iload 6 dX2_seeThing_33 rfl ?_
      refine X_aload_n 1 dX2_seeThing_35 rfl rfl rfl ?_
      refine X_aload_n 2 dX2_seeThing_36 rfl rfl rfl ?_
      refine X_getPe fl_X2_91 h2 rfl (gl5_P0 G h2) dX2_seeThing_37 ?_
      refine X_iload 6 dX2_seeThing_40 rfl ?_
      obtain ⟨g4, hm⟩ := og hm
      refine X_laldJ (gl5_K1 G h2) g4 rfl dX2_seeThing_42 ?_
      refine X_aload_n 2 dX2_seeThing_43 rfl rfl rfl ?_
      refine X_getI fl_X2_82 h2 rfl dX2_seeThing_44 ?_
      obtain ⟨q5, e6, hm⟩ := ob hm
      refine X_cV1 (ci := 6) (kX7_ownerOf d (by omega) G h1 e6) ml_X2_147 mi_X7_ownerOf rfl cf_6 h1 rfl rfl (Nat.le_refl _) ⟨Nat.le_refl _, Nat.le_refl _⟩ (Nat.le_of_ble_eq_true rfl) dX2_seeThing_47 ?_
      obtain ⟨g7, hm⟩ := og hm
      refine X_iastJ (g_K98 G) g7 rfl dX2_seeThing_50 ?_
      refine X_iload 4 dX2_seeThing_51 rfl ?_
      refine X_aload_n 0 dX2_seeThing_53 rfl rfl rfl ?_
      refine X_getPe fl_X2_22 (g_K95 G) rfl (g_P95_2 G) dX2_seeThing_54 ?_
      refine X_iload 6 dX2_seeThing_57 rfl ?_
      obtain ⟨g8, hm⟩ := og hm
      refine X_ialdJ (g_K98 G) g8 rfl dX2_seeThing_59 ?_
      obtain ⟨q9, e10, hm⟩ := ob hm
      refine X_cS1 (kX7_oneFor d (by omega) G e10) ml_X2_151 ms_X7_oneFor rfl rfl (Nat.le_refl _) ⟨Nat.le_refl _, Nat.le_refl _⟩ (Nat.le_of_ble_eq_true rfl) dX2_seeThing_60 ?_
      refine X_iadd dX2_seeThing_63 ?_
      refine X_istore (lv' := [(4, .int (a4 + q9)), (0, .ref 95), (1, .ref a1), (2, .ref a2), (3, .int a3), (5, .int a5), (6, .int a6)]) dX2_seeThing_64 (by decide) rfl ?_
      refine X_iinc (lv' := [(6, .int (a6 + 1)), (4, .int (a4 + q9)), (0, .ref 95), (1, .ref a1), (2, .ref a2), (3, .int a3), (5, .int a5)]) 6 dX2_seeThing_66 rfl rfl (by decide) rfl ?_
      refine X_goto (tgt := 15) dX2_seeThing_69 (by decide) ?_
      exact X_lv [2, 3, 4, 5, 1, 6, 0] rfl (ih _ _ _ _ _ _ _ h1 h2 hm)
def mX2_seeThing (L : Nat → Nat → Int64) (I : Nat → Nat → Int32) (a1 : Nat) (a2 : Nat) (a3 : Int32) : Option ((Nat → Nat → Int32)) := (if inb a3 4 = true then (mX2_seeThing_15 L (fun (I_11 : (Nat → Nat → Int32)) (a1_11 : Nat) (a3_11 : Int32) (a4_11 : Int32) => (if inb a3_11 4 = true then (if inb a3_11 4 = true then (Option.bind (mX7_ownerBy a4_11 ((xu I_11 99 (ix a3_11) a4_11) (a1_11 + 2) (ix a3_11)) ((xu I_11 99 (ix a3_11) a4_11) a1_11 2)) (fun q14 => (if inb a3_11 4 = true then (some (xu (xu I_11 99 (ix a3_11) a4_11) 100 (ix a3_11) q14)) else none))) else none) else none)) xf I a1 a2 a3 (0 : Int32) (I (a1 + 1) (ix a3)) (I (a1 + 1) (ix a3))) else none)
set_option maxHeartbeats 400000 in
set_option maxRecDepth 100000 in
theorem kX2_seeThing {E : xE} {B : Nat} {n : Nat} {K : Nat → Nat × Nat} {P : Nat → Nat → Nat} {I : Nat → Nat → Int32} {L : Nat → Nat → Int64}  {a1 : Nat} {a2 : Nat} {a3 : Int32} {q : (Nat → Nat → Int32)} (d : Nat) (hd : 3 ≤ d) (G : GW K P)  (h1 : K a1 = (6, 0)) (h2 : K a2 = (5, 0)) (hm : mX2_seeThing L I a1 a2 a3 = some q) : MX E B d 0 0 yX2_seeThing cX2_seeThing 7 (none : Option Jvm.ClassFile.FieldType) [.ref 95, .ref a1, .ref a2, .int a3] (n, K, P, I, L) (none, (n, K, P, q, L)) := by
  refine MX_of (lv := [(0, .ref 95), (1, .ref a1), (2, .ref a2), (3, .int a3)]) (by decide +kernel) (Nat.le_of_ble_eq_true rfl) rfl ?_
  obtain ⟨d, rfl⟩ : ∃ d0, d = d0 + 1 := ⟨d - 1, by omega⟩
  unfold mX2_seeThing at hm
  refine X_iconst (v := (0 : Int32)) dX2_seeThing_0 (by decide) ?_
  refine X_istore (lv' := [(4, .int (0 : Int32)), (0, .ref 95), (1, .ref a1), (2, .ref a2), (3, .int a3)]) dX2_seeThing_1 (by decide) rfl ?_
  refine X_aload_n 2 dX2_seeThing_3 rfl rfl rfl ?_
  refine X_getPe fl_X2_144 h1 rfl (gl6_P9 G h1) dX2_seeThing_4 ?_
  refine X_iload_n 4 dX2_seeThing_7 rfl rfl ?_
  obtain ⟨g1, hm⟩ := og hm
  refine X_ialdJ (gl6_K1 G h1) g1 rfl dX2_seeThing_8 ?_
  refine X_istore (lv' := [(5, .int (I (a1 + 1) (ix a3))), (4, .int (0 : Int32)), (0, .ref 95), (1, .ref a1), (2, .ref a2), (3, .int a3)]) dX2_seeThing_9 (by decide) rfl ?_
  refine X_iload 0 dX2_seeThing_11 rfl ?_
  refine X_istore (lv' := [(6, .int (I (a1 + 1) (ix a3))), (5, .int (I (a1 + 1) (ix a3))), (4, .int (0 : Int32)), (0, .ref 95), (1, .ref a1), (2, .ref a2), (3, .int a3)]) dX2_seeThing_13 (by decide) rfl ?_
  refine X_lv [3, 4, 5, 6, 2, 1, 0] rfl (kX2_seeThing_15 _ hd G (fun I_11 a1_11 a3_11 a4_11 h1_11 hm => ?_) xf _ _ _ _ _ _ _ h1 h2 hm)
  refine X_aload_n 0 dX2_seeThing_72 rfl rfl rfl ?_
  refine X_getPe fl_X2_26 (g_K95 G) rfl (g_P95_3 G) dX2_seeThing_73 ?_
  refine X_iload_n 2 dX2_seeThing_76 rfl rfl ?_
  refine X_iload 3 dX2_seeThing_77 rfl ?_
  obtain ⟨g12, hm⟩ := og hm
  refine X_iastJ (g_K99 G) g12 rfl dX2_seeThing_79 ?_
  refine X_aload_n 0 dX2_seeThing_80 rfl rfl rfl ?_
  refine X_getPe fl_X2_29 (g_K95 G) rfl (g_P95_4 G) dX2_seeThing_81 ?_
  refine X_iload_n 2 dX2_seeThing_84 rfl rfl ?_
  refine X_iload 3 dX2_seeThing_85 rfl ?_
  refine X_aload_n 1 dX2_seeThing_87 rfl rfl rfl ?_
  refine X_getPe fl_X2_111 h1_11 rfl (gl6_P10 G h1_11) dX2_seeThing_88 ?_
  refine X_iload_n 2 dX2_seeThing_91 rfl rfl ?_
  obtain ⟨g13, hm⟩ := og hm
  refine X_ialdJ (gl6_K2 G h1_11) g13 rfl dX2_seeThing_92 ?_
  refine X_aload_n 1 dX2_seeThing_93 rfl rfl rfl ?_
  refine X_getI fl_X2_114 h1_11 rfl dX2_seeThing_94 ?_
  obtain ⟨q14, e15, hm⟩ := ob hm
  refine X_cS1 (kX7_ownerBy d (by omega) G e15) ml_X2_117 ms_X7_ownerBy rfl rfl (Nat.le_refl _) ⟨Nat.le_refl _, Nat.le_refl _⟩ (Nat.le_of_ble_eq_true rfl) dX2_seeThing_97 ?_
  obtain ⟨g16, hm⟩ := og hm
  refine X_iastJ (g_K100 G) g16 rfl dX2_seeThing_100 ?_
  replace hm := Option.some.inj hm
  subst hm
  exact X_vret dX2_seeThing_101 rfl
def mX6_isBare (I : Nat → Nat → Int32) (a0 : Nat) (a1 : Int32) : Option (Int32) := (if ((xshr (I a0 3) a1) &&& (1 : Int32)) = (1 : Int32) then (some (1 : Int32)) else (some (0 : Int32)))
set_option maxHeartbeats 400000 in
set_option maxRecDepth 100000 in
theorem kX6_isBare {E : xE} {B : Nat} {n : Nat} {K : Nat → Nat × Nat} {P : Nat → Nat → Nat} {I : Nat → Nat → Int32} {L : Nat → Nat → Int64}  {a0 : Nat} {a1 : Int32} {q : Int32} (d : Nat) (hd : 0 ≤ d) (G : GW K P)  (h0 : K a0 = (5, 0)) (hm : mX6_isBare I a0 a1 = some q) : MX E B d 0 0 yX6_isBare cX6_isBare 2 (some .boolean) [.ref a0, .int a1] (n, K, P, I, L) (some (.int q), (n, K, P, I, L)) := by
  refine MX_of (lv := [(0, .ref a0), (1, .int a1)]) (by decide +kernel) (Nat.le_of_ble_eq_true rfl) rfl ?_
  unfold mX6_isBare at hm
  refine X_aload_n 0 dX6_isBare_0 rfl rfl rfl ?_
  refine X_getI fl_X6_29 h0 rfl dX6_isBare_1 ?_
  refine X_iload_n 1 dX6_isBare_4 rfl rfl ?_
  refine X_ishr dX6_isBare_5 ?_
  refine X_iconst (v := (1 : Int32)) dX6_isBare_6 (by decide) ?_
  refine X_iand dX6_isBare_7 ?_
  refine X_iconst (v := (1 : Int32)) dX6_isBare_8 (by decide) ?_
  refine X_icmp_ne (tgt := 16) dX6_isBare_9 (by decide) (fun c1 => ?_) (fun c1 => ?_)
  · replace hm := iq c1 hm
    refine X_iconst (v := (0 : Int32)) dX6_isBare_16 (by decide) ?_
    replace hm := Option.some.inj hm
    subst hm
    exact X_zret (v := (0 : Int32)) dX6_isBare_17 rfl (x_nz (Or.inl rfl))
  · replace hm := ip c1 hm
    refine X_iconst (v := (1 : Int32)) dX6_isBare_12 (by decide) ?_
    refine X_goto (tgt := 17) dX6_isBare_13 (by decide) ?_
    replace hm := Option.some.inj hm
    subst hm
    exact X_zret (v := (1 : Int32)) dX6_isBare_17 rfl (x_nz (Or.inr rfl))
def mX2_setWords_85 (I : Nat → Nat → Int32) (L : Nat → Nat → Int64) (a3 : Int32) (a4 : Int32) (a5 : Int32) (a6 : Int64) (t0 : Int64) (t1 : Int32) : Option ((Nat → Nat → Int64)) := (if inb t1 13 = true then (if inb a4 16 = true then (if inb a5 4 = true then (Option.bind (mX7_countOf (I 99 (ix a5)) a3) (fun q12 => (if inb a5 4 = true then (Option.bind (mX0_height a6) (fun q15 => (some (xu (xu (xu (xu (xu L 96 (ix t1) t0) 96 6 (I 98 (ix a4)).toInt64) 96 7 q12.toInt64) 96 8 (I 100 (ix a5)).toInt64) 96 9 q15.toInt64)))) else none))) else none) else none) else none)
set_option maxHeartbeats 400000 in
set_option maxRecDepth 100000 in
theorem kX2_setWords_85 {E : xE} {B : Nat} {n : Nat} {K : Nat → Nat × Nat} {P : Nat → Nat → Nat} {I : Nat → Nat → Int32} {L : Nat → Nat → Int64}   {a3 : Int32} {a4 : Int32} {a5 : Int32} {a6 : Int64} {t0 : Int64} {t1 : Int32} {q : (Nat → Nat → Int64)} (d : Nat) (hd : 2 ≤ d) (G : GW K P)    (hm : mX2_setWords_85 I L a3 a4 a5 a6 t0 t1 = some q) : X E B d 0 0 yX2_setWords cX2_setWords 8 (none : Option Jvm.ClassFile.FieldType) (none, (n, K, P, I, q)) 85 [(0, .ref 95), (3, .int a3), (4, .int a4), (5, .int a5), (6, .long a6)] [.long t0, .int t1, .ref 96] 0 0 (n, K, P, I, L) := by
  obtain ⟨d, rfl⟩ : ∃ d0, d = d0 + 1 := ⟨d - 1, by omega⟩
  unfold mX2_setWords_85 at hm
  obtain ⟨g9, hm⟩ := og hm
  refine X_lastJ (g_K96 G) g9 rfl dX2_setWords_85 ?_
  refine X_aload_n 0 dX2_setWords_86 rfl rfl rfl ?_
  refine X_getPe fl_X2_11 (g_K95 G) rfl (g_P95_0 G) dX2_setWords_87 ?_
  refine X_bipush (v := (6 : Int32)) dX2_setWords_90 (by decide) ?_
  refine X_aload_n 0 dX2_setWords_92 rfl rfl rfl ?_
  refine X_getPe fl_X2_22 (g_K95 G) rfl (g_P95_2 G) dX2_setWords_93 ?_
  refine X_iload 2 dX2_setWords_96 rfl ?_
  obtain ⟨g10, hm⟩ := og hm
  refine X_ialdJ (g_K98 G) g10 rfl dX2_setWords_98 ?_
  refine X_i2l dX2_setWords_99 ?_
  refine X_lastJ (j := 6) (g_K96 G) rfl (by decide) dX2_setWords_100 ?_
  refine X_aload_n 0 dX2_setWords_101 rfl rfl rfl ?_
  refine X_getPe fl_X2_11 (g_K95 G) rfl (g_P95_0 G) dX2_setWords_102 ?_
  refine X_bipush (v := (7 : Int32)) dX2_setWords_105 (by decide) ?_
  refine X_aload_n 0 dX2_setWords_107 rfl rfl rfl ?_
  refine X_getPe fl_X2_26 (g_K95 G) rfl (g_P95_3 G) dX2_setWords_108 ?_
  refine X_iload 3 dX2_setWords_111 rfl ?_
  obtain ⟨g11, hm⟩ := og hm
  refine X_ialdJ (g_K99 G) g11 rfl dX2_setWords_113 ?_
  refine X_iload_n 1 dX2_setWords_114 rfl rfl ?_
  obtain ⟨q12, e13, hm⟩ := ob hm
  refine X_cS1 (kX7_countOf d (by omega) G e13) ml_X2_177 ms_X7_countOf rfl rfl (Nat.le_refl _) ⟨Nat.le_refl _, Nat.le_refl _⟩ (Nat.le_of_ble_eq_true rfl) dX2_setWords_115 ?_
  refine X_i2l dX2_setWords_118 ?_
  refine X_lastJ (j := 7) (g_K96 G) rfl (by decide) dX2_setWords_119 ?_
  refine X_aload_n 0 dX2_setWords_120 rfl rfl rfl ?_
  refine X_getPe fl_X2_11 (g_K95 G) rfl (g_P95_0 G) dX2_setWords_121 ?_
  refine X_bipush (v := (8 : Int32)) dX2_setWords_124 (by decide) ?_
  refine X_aload_n 0 dX2_setWords_126 rfl rfl rfl ?_
  refine X_getPe fl_X2_29 (g_K95 G) rfl (g_P95_4 G) dX2_setWords_127 ?_
  refine X_iload 3 dX2_setWords_130 rfl ?_
  obtain ⟨g14, hm⟩ := og hm
  refine X_ialdJ (g_K100 G) g14 rfl dX2_setWords_132 ?_
  refine X_i2l dX2_setWords_133 ?_
  refine X_lastJ (j := 8) (g_K96 G) rfl (by decide) dX2_setWords_134 ?_
  refine X_aload_n 0 dX2_setWords_135 rfl rfl rfl ?_
  refine X_getPe fl_X2_11 (g_K95 G) rfl (g_P95_0 G) dX2_setWords_136 ?_
  refine X_bipush (v := (9 : Int32)) dX2_setWords_139 (by decide) ?_
  refine X_lload 4 dX2_setWords_141 rfl ?_
  obtain ⟨q15, e16, hm⟩ := ob hm
  refine X_cS1 (kX0_height d (by omega) G e16) ml_X2_180 ms_X0_height rfl rfl (Nat.le_refl _) ⟨Nat.le_refl _, Nat.le_refl _⟩ (Nat.le_of_ble_eq_true rfl) dX2_setWords_143 ?_
  refine X_i2l dX2_setWords_146 ?_
  refine X_lastJ (j := 9) (g_K96 G) rfl (by decide) dX2_setWords_147 ?_
  replace hm := Option.some.inj hm
  subst hm
  exact X_vret dX2_setWords_148 rfl
def mX2_setWords (I : Nat → Nat → Int32) (L : Nat → Nat → Int64) (a1 : Nat) (a2 : Nat) (a3 : Int32) (a4 : Int32) : Option ((Nat → Nat → Int64)) := (if inb a4 16 = true then (if inb a4 16 = true then (if inb (I (a1 + 4) (ix a4)) 4 = true then (Option.bind (mX0_topPainter (L (a2 + 1) (ix a4))) (fun q4 => (Option.bind (mX7_isWet I a1 (L (a2 + 1) (ix a4)) (I a2 2)) (fun q6 => (if q6 = 0 then (mX2_setWords_85 I (xu (xu (xu (xu L 96 1 a4.toInt64) 96 2 (I (a1 + 4) (ix a4)).toInt64) 96 3 (I (a1 + 3) (ix (I (a1 + 4) (ix a4)))).toInt64) 96 4 q4.toInt64) a3 a4 (I (a1 + 4) (ix a4)) (L (a2 + 1) (ix a4)) (0 : Int64) (5 : Int32)) else (mX2_setWords_85 I (xu (xu (xu (xu L 96 1 a4.toInt64) 96 2 (I (a1 + 4) (ix a4)).toInt64) 96 3 (I (a1 + 3) (ix (I (a1 + 4) (ix a4)))).toInt64) 96 4 q4.toInt64) a3 a4 (I (a1 + 4) (ix a4)) (L (a2 + 1) (ix a4)) (1 : Int64) (5 : Int32))))))) else none) else none) else none)
set_option maxHeartbeats 400000 in
set_option maxRecDepth 100000 in
theorem kX2_setWords {E : xE} {B : Nat} {n : Nat} {K : Nat → Nat × Nat} {P : Nat → Nat → Nat} {I : Nat → Nat → Int32} {L : Nat → Nat → Int64}  {a1 : Nat} {a2 : Nat} {a3 : Int32} {a4 : Int32} {q : (Nat → Nat → Int64)} (d : Nat) (hd : 2 ≤ d) (G : GW K P)  (h1 : K a1 = (6, 0)) (h2 : K a2 = (5, 0)) (hm : mX2_setWords I L a1 a2 a3 a4 = some q) : MX E B d 0 0 yX2_setWords cX2_setWords 8 (none : Option Jvm.ClassFile.FieldType) [.ref 95, .ref a1, .ref a2, .int a3, .int a4] (n, K, P, I, L) (none, (n, K, P, I, q)) := by
  refine MX_of (lv := [(0, .ref 95), (1, .ref a1), (2, .ref a2), (3, .int a3), (4, .int a4)]) (by decide +kernel) (Nat.le_of_ble_eq_true rfl) rfl ?_
  obtain ⟨d, rfl⟩ : ∃ d0, d = d0 + 1 := ⟨d - 1, by omega⟩
  unfold mX2_setWords at hm
  refine X_aload_n 1 dX2_setWords_0 rfl rfl rfl ?_
  refine X_getPe fl_X2_141 h1 rfl (gl6_P12 G h1) dX2_setWords_1 ?_
  refine X_iload 4 dX2_setWords_4 rfl ?_
  obtain ⟨g1, hm⟩ := og hm
  refine X_ialdJ (gl6_K4 G h1) g1 rfl dX2_setWords_6 ?_
  refine X_istore (lv' := [(5, .int (I (a1 + 4) (ix a4))), (0, .ref 95), (1, .ref a1), (2, .ref a2), (3, .int a3), (4, .int a4)]) dX2_setWords_7 (by decide) rfl ?_
  refine X_aload_n 3 dX2_setWords_9 rfl rfl rfl ?_
  refine X_getPe fl_X2_91 h2 rfl (gl5_P0 G h2) dX2_setWords_10 ?_
  refine X_iload 5 dX2_setWords_13 rfl ?_
  obtain ⟨g2, hm⟩ := og hm
  refine X_laldJ (gl5_K1 G h2) g2 rfl dX2_setWords_15 ?_
  refine X_lstore (lv' := [(6, .long (L (a2 + 1) (ix a4))), (5, .int (I (a1 + 4) (ix a4))), (0, .ref 95), (1, .ref a1), (2, .ref a2), (3, .int a3), (4, .int a4)]) dX2_setWords_16 (by decide) rfl ?_
  refine X_aload_n 2 dX2_setWords_18 rfl rfl rfl ?_
  refine X_getPe fl_X2_11 (g_K95 G) rfl (g_P95_0 G) dX2_setWords_19 ?_
  refine X_iconst (v := (1 : Int32)) dX2_setWords_22 (by decide) ?_
  refine X_iload 6 dX2_setWords_23 rfl ?_
  refine X_i2l dX2_setWords_25 ?_
  refine X_lastJ (j := 1) (g_K96 G) rfl (by decide) dX2_setWords_26 ?_
  refine X_aload_n 2 dX2_setWords_27 rfl rfl rfl ?_
  refine X_getPe fl_X2_11 (g_K95 G) rfl (g_P95_0 G) dX2_setWords_28 ?_
  refine X_iconst (v := (2 : Int32)) dX2_setWords_31 (by decide) ?_
  refine X_iload 1 dX2_setWords_32 rfl ?_
  refine X_i2l dX2_setWords_34 ?_
  refine X_lastJ (j := 2) (g_K96 G) rfl (by decide) dX2_setWords_35 ?_
  refine X_aload_n 2 dX2_setWords_36 rfl rfl rfl ?_
  refine X_getPe fl_X2_11 (g_K95 G) rfl (g_P95_0 G) dX2_setWords_37 ?_
  refine X_iconst (v := (3 : Int32)) dX2_setWords_40 (by decide) ?_
  refine X_aload_n 3 dX2_setWords_41 rfl rfl rfl ?_
  refine X_getPe fl_X2_121 h1 rfl (gl6_P11 G h1) dX2_setWords_42 ?_
  refine X_iload 1 dX2_setWords_45 rfl ?_
  obtain ⟨g3, hm⟩ := og hm
  refine X_ialdJ (gl6_K3 G h1) g3 rfl dX2_setWords_47 ?_
  refine X_i2l dX2_setWords_48 ?_
  refine X_lastJ (j := 3) (g_K96 G) rfl (by decide) dX2_setWords_49 ?_
  refine X_aload_n 2 dX2_setWords_50 rfl rfl rfl ?_
  refine X_getPe fl_X2_11 (g_K95 G) rfl (g_P95_0 G) dX2_setWords_51 ?_
  refine X_iconst (v := (4 : Int32)) dX2_setWords_54 (by decide) ?_
  refine X_lload 0 dX2_setWords_55 rfl ?_
  obtain ⟨q4, e5, hm⟩ := ob hm
  refine X_cS1 (kX0_topPainter d (by omega) G e5) ml_X2_167 ms_X0_topPainter rfl rfl (Nat.le_refl _) ⟨Nat.le_refl _, Nat.le_refl _⟩ (Nat.le_of_ble_eq_true rfl) dX2_setWords_57 ?_
  refine X_i2l dX2_setWords_60 ?_
  refine X_lastJ (j := 4) (g_K96 G) rfl (by decide) dX2_setWords_61 ?_
  refine X_aload_n 2 dX2_setWords_62 rfl rfl rfl ?_
  refine X_getPe fl_X2_11 (g_K95 G) rfl (g_P95_0 G) dX2_setWords_63 ?_
  refine X_iconst (v := (5 : Int32)) dX2_setWords_66 (by decide) ?_
  refine X_aload_n 3 dX2_setWords_67 rfl rfl rfl ?_
  refine X_lload 0 dX2_setWords_68 rfl ?_
  refine X_aload_n 4 dX2_setWords_70 rfl rfl rfl ?_
  refine X_getI fl_X2_82 h2 rfl dX2_setWords_71 ?_
  obtain ⟨q6, e7, hm⟩ := ob hm
  refine X_cV1 (ci := 6) (kX7_isWet d (by omega) G h1 e7) ml_X2_173 mi_X7_isWet rfl cf_6 h1 rfl rfl (Nat.le_refl _) ⟨Nat.le_refl _, Nat.le_refl _⟩ (Nat.le_of_ble_eq_true rfl) dX2_setWords_74 ?_
  refine X_if_eq (tgt := 84) dX2_setWords_77 (by decide) (fun c8 => ?_) (fun c8 => ?_)
  · replace hm := ip c8 hm
    refine X_lconst (v := (0 : Int64)) dX2_setWords_84 (by decide) ?_
    exact X_lv [2, 5, 6, 1, 0] rfl (kX2_setWords_85 _ hd G hm)
  · replace hm := iq c8 hm
    refine X_lconst (v := (1 : Int64)) dX2_setWords_80 (by decide) ?_
    refine X_goto (tgt := 85) dX2_setWords_81 (by decide) ?_
    exact X_lv [2, 5, 6, 1, 0] rfl (kX2_setWords_85 _ hd G hm)
def mX3_joined  (a0 : Int32) (a1 : Int64) (a3 : Int64) : Option (Int64) := (if a0 = (19 : Int32) then (some (a1 &&& a3)) else (if a0 = (20 : Int32) then (some (a1 ||| a3)) else (if a0 = (21 : Int32) then (some (a1 ||| a3)) else (if a0 = (22 : Int32) then (some (a1 + a3)) else (if a0 = (23 : Int32) then (some (a1 - a3)) else (if a0 = (24 : Int32) then (some (a1 * a3)) else (if a0 = (25 : Int32) then (if (lg_cmp a3 (0 : Int64)) = 0 then (some (0 : Int64)) else (if ¬ a3 = 0 then (some (a1 / a3)) else none)) else (if a0 = (26 : Int32) then (if (lg_cmp a3 (0 : Int64)) = 0 then (some (0 : Int64)) else (if ¬ a3 = 0 then (some (xlrem a1 a3)) else none)) else (if a0 = (27 : Int32) then (if 0 ≤ (lg_cmp a1 a3) then (some (0 : Int64)) else (some (1 : Int64))) else (if a0 = (28 : Int32) then (if (lg_cmp a1 a3) = 0 then (some (1 : Int64)) else (some (0 : Int64))) else (if a0 = (29 : Int32) then (if (lg_cmp a1 a3) ≤ 0 then (some (0 : Int64)) else (some (1 : Int64))) else (if a0 = (30 : Int32) then (some (a1 ||| a3)) else (if a0 = (31 : Int32) then (some (a1 ||| a3)) else (if a0 = (32 : Int32) then (some (a1 ||| a3)) else (if a0 = (33 : Int32) then (if 0 < (lg_cmp a1 a3) then (some (0 : Int64)) else (some (1 : Int64))) else (if a0 = (34 : Int32) then (if (lg_cmp a1 a3) < 0 then (some (0 : Int64)) else (some (1 : Int64))) else (some (a1 ||| a3))))))))))))))))))
set_option maxHeartbeats 400000 in
set_option maxRecDepth 100000 in
theorem kX3_joined {E : xE} {B : Nat} {n : Nat} {K : Nat → Nat × Nat} {P : Nat → Nat → Nat} {I : Nat → Nat → Int32} {L : Nat → Nat → Int64}  {a0 : Int32} {a1 : Int64} {a3 : Int64} {q : Int64} (d : Nat) (hd : 0 ≤ d) (G : GW K P)   (hm : mX3_joined a0 a1 a3 = some q) : MX E B d 0 0 yX3_joined cX3_joined 5 (some .long) [.int a0, .long a1, .long a3] (n, K, P, I, L) (some (.long q), (n, K, P, I, L)) := by
  refine MX_of (lv := [(0, .int a0), (1, .long a1), (3, .long a3)]) (by decide +kernel) (Nat.le_of_ble_eq_true rfl) rfl ?_
  unfold mX3_joined at hm
  refine X_iload_n 0 dX3_joined_0 rfl rfl ?_
  rcases Decidable.em (a0 = (19 : Int32)) with c1 | c1
  · replace hm := ip c1 hm
    refine X_swK (off := 179) (tgt := 180) c1 dX3_joined_1 (by decide) (by decide) (by decide) (by decide) ?_
    refine X_lload_n 1 dX3_joined_180 rfl rfl ?_
    refine X_lload_n 2 dX3_joined_181 rfl rfl ?_
    refine X_land dX3_joined_182 ?_
    replace hm := Option.some.inj hm
    subst hm
    exact X_lret dX3_joined_183 rfl
  · replace hm := iq c1 hm
    rcases Decidable.em (a0 = (20 : Int32)) with c2 | c2
    · replace hm := ip c2 hm
      refine X_swK (off := 183) (tgt := 184) c2 dX3_joined_1 (by decide) (by decide) (by decide) (by decide) ?_
      refine X_lload_n 1 dX3_joined_184 rfl rfl ?_
      refine X_lload_n 2 dX3_joined_185 rfl rfl ?_
      refine X_lor dX3_joined_186 ?_
      replace hm := Option.some.inj hm
      subst hm
      exact X_lret dX3_joined_187 rfl
    · replace hm := iq c2 hm
      rcases Decidable.em (a0 = (21 : Int32)) with c3 | c3
      · replace hm := ip c3 hm
        refine X_swK (off := 183) (tgt := 184) c3 dX3_joined_1 (by decide) (by decide) (by decide) (by decide) ?_
        refine X_lload_n 1 dX3_joined_184 rfl rfl ?_
        refine X_lload_n 2 dX3_joined_185 rfl rfl ?_
        refine X_lor dX3_joined_186 ?_
        replace hm := Option.some.inj hm
        subst hm
        exact X_lret dX3_joined_187 rfl
      · replace hm := iq c3 hm
        rcases Decidable.em (a0 = (22 : Int32)) with c4 | c4
        · replace hm := ip c4 hm
          refine X_swK (off := 79) (tgt := 80) c4 dX3_joined_1 (by decide) (by decide) (by decide) (by decide) ?_
          refine X_lload_n 1 dX3_joined_80 rfl rfl ?_
          refine X_lload_n 2 dX3_joined_81 rfl rfl ?_
          refine X_ladd dX3_joined_82 ?_
          replace hm := Option.some.inj hm
          subst hm
          exact X_lret dX3_joined_83 rfl
        · replace hm := iq c4 hm
          rcases Decidable.em (a0 = (23 : Int32)) with c5 | c5
          · replace hm := ip c5 hm
            refine X_swK (off := 83) (tgt := 84) c5 dX3_joined_1 (by decide) (by decide) (by decide) (by decide) ?_
            refine X_lload_n 1 dX3_joined_84 rfl rfl ?_
            refine X_lload_n 2 dX3_joined_85 rfl rfl ?_
            refine X_lsub dX3_joined_86 ?_
            replace hm := Option.some.inj hm
            subst hm
            exact X_lret dX3_joined_87 rfl
          · replace hm := iq c5 hm
            rcases Decidable.em (a0 = (24 : Int32)) with c6 | c6
            · replace hm := ip c6 hm
              refine X_swK (off := 87) (tgt := 88) c6 dX3_joined_1 (by decide) (by decide) (by decide) (by decide) ?_
              refine X_lload_n 1 dX3_joined_88 rfl rfl ?_
              refine X_lload_n 2 dX3_joined_89 rfl rfl ?_
              refine X_lmul dX3_joined_90 ?_
              replace hm := Option.some.inj hm
              subst hm
              exact X_lret dX3_joined_91 rfl
            · replace hm := iq c6 hm
              rcases Decidable.em (a0 = (25 : Int32)) with c7 | c7
              · replace hm := ip c7 hm
                refine X_swK (off := 91) (tgt := 92) c7 dX3_joined_1 (by decide) (by decide) (by decide) (by decide) ?_
                refine X_lload_n 2 dX3_joined_92 rfl rfl ?_
                refine X_lconst (v := (0 : Int64)) dX3_joined_93 (by decide) ?_
                refine X_lcmp dX3_joined_94 ?_
                refine X_if_ne (tgt := 102) dX3_joined_95 (by decide) (fun c8 => ?_) (fun c8 => ?_)
                · replace hm := iq c8 hm
                  refine X_lload_n 1 dX3_joined_102 rfl rfl ?_
                  refine X_lload_n 2 dX3_joined_103 rfl rfl ?_
                  obtain ⟨g9, hm⟩ := og hm
                  refine X_ldiv dX3_joined_104 g9 ?_
                  replace hm := Option.some.inj hm
                  subst hm
                  exact X_lret dX3_joined_105 rfl
                · replace hm := ip c8 hm
                  refine X_lconst (v := (0 : Int64)) dX3_joined_98 (by decide) ?_
                  refine X_goto (tgt := 105) dX3_joined_99 (by decide) ?_
                  replace hm := Option.some.inj hm
                  subst hm
                  exact X_lret dX3_joined_105 rfl
              · replace hm := iq c7 hm
                rcases Decidable.em (a0 = (26 : Int32)) with c10 | c10
                · replace hm := ip c10 hm
                  refine X_swK (off := 105) (tgt := 106) c10 dX3_joined_1 (by decide) (by decide) (by decide) (by decide) ?_
                  refine X_lload_n 2 dX3_joined_106 rfl rfl ?_
                  refine X_lconst (v := (0 : Int64)) dX3_joined_107 (by decide) ?_
                  refine X_lcmp dX3_joined_108 ?_
                  refine X_if_ne (tgt := 116) dX3_joined_109 (by decide) (fun c11 => ?_) (fun c11 => ?_)
                  · replace hm := iq c11 hm
                    refine X_lload_n 1 dX3_joined_116 rfl rfl ?_
                    refine X_lload_n 2 dX3_joined_117 rfl rfl ?_
                    obtain ⟨g12, hm⟩ := og hm
                    refine X_lrem dX3_joined_118 g12 ?_
                    replace hm := Option.some.inj hm
                    subst hm
                    exact X_lret dX3_joined_119 rfl
                  · replace hm := ip c11 hm
                    refine X_lconst (v := (0 : Int64)) dX3_joined_112 (by decide) ?_
                    refine X_goto (tgt := 119) dX3_joined_113 (by decide) ?_
                    replace hm := Option.some.inj hm
                    subst hm
                    exact X_lret dX3_joined_119 rfl
                · replace hm := iq c10 hm
                  rcases Decidable.em (a0 = (27 : Int32)) with c13 | c13
                  · replace hm := ip c13 hm
                    refine X_swK (off := 119) (tgt := 120) c13 dX3_joined_1 (by decide) (by decide) (by decide) (by decide) ?_
                    refine X_lload_n 1 dX3_joined_120 rfl rfl ?_
                    refine X_lload_n 2 dX3_joined_121 rfl rfl ?_
                    refine X_lcmp dX3_joined_122 ?_
                    refine X_if_ge (tgt := 130) dX3_joined_123 (by decide) (fun c14 => ?_) (fun c14 => ?_)
                    · replace hm := ip c14 hm
                      refine X_lconst (v := (0 : Int64)) dX3_joined_130 (by decide) ?_
                      replace hm := Option.some.inj hm
                      subst hm
                      exact X_lret dX3_joined_131 rfl
                    · replace hm := iq c14 hm
                      refine X_lconst (v := (1 : Int64)) dX3_joined_126 (by decide) ?_
                      refine X_goto (tgt := 131) dX3_joined_127 (by decide) ?_
                      replace hm := Option.some.inj hm
                      subst hm
                      exact X_lret dX3_joined_131 rfl
                  · replace hm := iq c13 hm
                    rcases Decidable.em (a0 = (28 : Int32)) with c15 | c15
                    · replace hm := ip c15 hm
                      refine X_swK (off := 143) (tgt := 144) c15 dX3_joined_1 (by decide) (by decide) (by decide) (by decide) ?_
                      refine X_lload_n 1 dX3_joined_144 rfl rfl ?_
                      refine X_lload_n 2 dX3_joined_145 rfl rfl ?_
                      refine X_lcmp dX3_joined_146 ?_
                      refine X_if_ne (tgt := 154) dX3_joined_147 (by decide) (fun c16 => ?_) (fun c16 => ?_)
                      · replace hm := iq c16 hm
                        refine X_lconst (v := (0 : Int64)) dX3_joined_154 (by decide) ?_
                        replace hm := Option.some.inj hm
                        subst hm
                        exact X_lret dX3_joined_155 rfl
                      · replace hm := ip c16 hm
                        refine X_lconst (v := (1 : Int64)) dX3_joined_150 (by decide) ?_
                        refine X_goto (tgt := 155) dX3_joined_151 (by decide) ?_
                        replace hm := Option.some.inj hm
                        subst hm
                        exact X_lret dX3_joined_155 rfl
                    · replace hm := iq c15 hm
                      rcases Decidable.em (a0 = (29 : Int32)) with c17 | c17
                      · replace hm := ip c17 hm
                        refine X_swK (off := 167) (tgt := 168) c17 dX3_joined_1 (by decide) (by decide) (by decide) (by decide) ?_
                        refine X_lload_n 1 dX3_joined_168 rfl rfl ?_
                        refine X_lload_n 2 dX3_joined_169 rfl rfl ?_
                        refine X_lcmp dX3_joined_170 ?_
                        refine X_if_le (tgt := 178) dX3_joined_171 (by decide) (fun c18 => ?_) (fun c18 => ?_)
                        · replace hm := ip c18 hm
                          refine X_lconst (v := (0 : Int64)) dX3_joined_178 (by decide) ?_
                          replace hm := Option.some.inj hm
                          subst hm
                          exact X_lret dX3_joined_179 rfl
                        · replace hm := iq c18 hm
                          refine X_lconst (v := (1 : Int64)) dX3_joined_174 (by decide) ?_
                          refine X_goto (tgt := 179) dX3_joined_175 (by decide) ?_
                          replace hm := Option.some.inj hm
                          subst hm
                          exact X_lret dX3_joined_179 rfl
                      · replace hm := iq c17 hm
                        rcases Decidable.em (a0 = (30 : Int32)) with c19 | c19
                        · replace hm := ip c19 hm
                          refine X_swK (off := 183) (tgt := 184) c19 dX3_joined_1 (by decide) (by decide) (by decide) (by decide) ?_
                          refine X_lload_n 1 dX3_joined_184 rfl rfl ?_
                          refine X_lload_n 2 dX3_joined_185 rfl rfl ?_
                          refine X_lor dX3_joined_186 ?_
                          replace hm := Option.some.inj hm
                          subst hm
                          exact X_lret dX3_joined_187 rfl
                        · replace hm := iq c19 hm
                          rcases Decidable.em (a0 = (31 : Int32)) with c20 | c20
                          · replace hm := ip c20 hm
                            refine X_swK (off := 183) (tgt := 184) c20 dX3_joined_1 (by decide) (by decide) (by decide) (by decide) ?_
                            refine X_lload_n 1 dX3_joined_184 rfl rfl ?_
                            refine X_lload_n 2 dX3_joined_185 rfl rfl ?_
                            refine X_lor dX3_joined_186 ?_
                            replace hm := Option.some.inj hm
                            subst hm
                            exact X_lret dX3_joined_187 rfl
                          · replace hm := iq c20 hm
                            rcases Decidable.em (a0 = (32 : Int32)) with c21 | c21
                            · replace hm := ip c21 hm
                              refine X_swK (off := 183) (tgt := 184) c21 dX3_joined_1 (by decide) (by decide) (by decide) (by decide) ?_
                              refine X_lload_n 1 dX3_joined_184 rfl rfl ?_
                              refine X_lload_n 2 dX3_joined_185 rfl rfl ?_
                              refine X_lor dX3_joined_186 ?_
                              replace hm := Option.some.inj hm
                              subst hm
                              exact X_lret dX3_joined_187 rfl
                            · replace hm := iq c21 hm
                              rcases Decidable.em (a0 = (33 : Int32)) with c22 | c22
                              · replace hm := ip c22 hm
                                refine X_swK (off := 131) (tgt := 132) c22 dX3_joined_1 (by decide) (by decide) (by decide) (by decide) ?_
                                refine X_lload_n 1 dX3_joined_132 rfl rfl ?_
                                refine X_lload_n 2 dX3_joined_133 rfl rfl ?_
                                refine X_lcmp dX3_joined_134 ?_
                                refine X_if_gt (tgt := 142) dX3_joined_135 (by decide) (fun c23 => ?_) (fun c23 => ?_)
                                · replace hm := ip c23 hm
                                  refine X_lconst (v := (0 : Int64)) dX3_joined_142 (by decide) ?_
                                  replace hm := Option.some.inj hm
                                  subst hm
                                  exact X_lret dX3_joined_143 rfl
                                · replace hm := iq c23 hm
                                  refine X_lconst (v := (1 : Int64)) dX3_joined_138 (by decide) ?_
                                  refine X_goto (tgt := 143) dX3_joined_139 (by decide) ?_
                                  replace hm := Option.some.inj hm
                                  subst hm
                                  exact X_lret dX3_joined_143 rfl
                              · replace hm := iq c22 hm
                                rcases Decidable.em (a0 = (34 : Int32)) with c24 | c24
                                · replace hm := ip c24 hm
                                  refine X_swK (off := 155) (tgt := 156) c24 dX3_joined_1 (by decide) (by decide) (by decide) (by decide) ?_
                                  refine X_lload_n 1 dX3_joined_156 rfl rfl ?_
                                  refine X_lload_n 2 dX3_joined_157 rfl rfl ?_
                                  refine X_lcmp dX3_joined_158 ?_
                                  refine X_if_lt (tgt := 166) dX3_joined_159 (by decide) (fun c25 => ?_) (fun c25 => ?_)
                                  · replace hm := ip c25 hm
                                    refine X_lconst (v := (0 : Int64)) dX3_joined_166 (by decide) ?_
                                    replace hm := Option.some.inj hm
                                    subst hm
                                    exact X_lret dX3_joined_167 rfl
                                  · replace hm := iq c25 hm
                                    refine X_lconst (v := (1 : Int64)) dX3_joined_162 (by decide) ?_
                                    refine X_goto (tgt := 167) dX3_joined_163 (by decide) ?_
                                    replace hm := Option.some.inj hm
                                    subst hm
                                    exact X_lret dX3_joined_167 rfl
                                · replace hm := iq c24 hm
                                  refine X_tableOut (tgt := 184) dX3_joined_1 (sw_out 16 (by decide) (fun i hi => by
                                    have hi2 : i = 0 ∨ i = 1 ∨ i = 2 ∨ i = 3 ∨ i = 4 ∨ i = 5 ∨ i = 6 ∨ i = 7 ∨ i = 8 ∨ i = 9 ∨ i = 10 ∨ i = 11 ∨ i = 12 ∨ i = 13 ∨ i = 14 ∨ i = 15 := by omega
                                    rcases hi2 with rfl | rfl | rfl | rfl | rfl | rfl | rfl | rfl | rfl | rfl | rfl | rfl | rfl | rfl | rfl | rfl
                                    · exact c1
                                    · exact c2
                                    · exact c3
                                    · exact c4
                                    · exact c5
                                    · exact c6
                                    · exact c7
                                    · exact c10
                                    · exact c13
                                    · exact c15
                                    · exact c17
                                    · exact c19
                                    · exact c20
                                    · exact c21
                                    · exact c22
                                    · exact c24)) (by decide) ?_
                                  refine X_lload_n 1 dX3_joined_184 rfl rfl ?_
                                  refine X_lload_n 2 dX3_joined_185 rfl rfl ?_
                                  refine X_lor dX3_joined_186 ?_
                                  replace hm := Option.some.inj hm
                                  subst hm
                                  exact X_lret dX3_joined_187 rfl
def mX3_run_45 (K : Nat → Nat × Nat) (I : Nat → Nat → Int32) (b6 : (Nat → Nat → Int64) → Nat → Int32 → Nat → Nat → Nat → Nat → Int32 → Int32 → Option (Int64 × (Nat → Nat → Int64))) (L : Nat → Nat → Int64) (a0 : Nat) (a2 : Int32) (a3 : Nat) (z3 : Nat) (a4 : Nat) (z4 : Nat) (a5 : Int32) (a6 : Int32) (a7 : Int32) : Option (Int64 × (Nat → Nat → Int64)) := (if (nI z4) ≤ a5 then (b6 L a0 a2 a3 z3 a4 z4 a5 (a6 + 1)) else (if a7 < (64 : Int32) then (if inb a7 z3 = true then (if inb a5 z4 = true then (b6 (xu L a4 (ix a5) (L a3 (ix a7))) a0 a2 a3 z3 a4 z4 (a5 + 1) (a6 + 1)) else none) else none) else (if inb a5 z4 = true then (b6 (xu L a4 (ix a5) (a7 - (64 : Int32)).toInt64) a0 a2 a3 z3 a4 z4 (a5 + 1) (a6 + 1)) else none)))
set_option maxHeartbeats 400000 in
set_option maxRecDepth 100000 in
theorem kX3_run_45 {E : xE} {B : Nat} {n : Nat} {K : Nat → Nat × Nat} {P : Nat → Nat → Nat} {I : Nat → Nat → Int32} {L : Nat → Nat → Int64}  {b6 : (Nat → Nat → Int64) → Nat → Int32 → Nat → Nat → Nat → Nat → Int32 → Int32 → Option (Int64 × (Nat → Nat → Int64))} {a0 : Nat} {a2 : Int32} {a3 : Nat} {z3 : Nat} {a4 : Nat} {z4 : Nat} {a5 : Int32} {a6 : Int32} {a7 : Int32} {q : Int64 × (Nat → Nat → Int64)} (d : Nat) (hd : 1 ≤ d) (G : GW K P)  (hb6 : ∀ (L : Nat → Nat → Int64) (a0 : Nat) (a2 : Int32) (a3 : Nat) (z3 : Nat) (a4 : Nat) (z4 : Nat) (a5 : Int32) (a6 : Int32), K a0 = (2, 0) → K a3 = (21, z3) → K a4 = (21, z4) → b6 L a0 a2 a3 z3 a4 z4 a5 a6 = some q → X E B d 0 0 yX3_run cX3_run 8 (some .long) (some (.long q.1), (n, K, P, I, q.2)) 6 [(0, .ref a0), (2, .int a2), (3, .ref a3), (4, .ref a4), (5, .int a5), (6, .int a6)] [] 0 0 (n, K, P, I, L)) (h0 : K a0 = (2, 0)) (h3 : K a3 = (21, z3)) (h4 : K a4 = (21, z4)) (hm : mX3_run_45 K I b6 L a0 a2 a3 z3 a4 z4 a5 a6 a7 = some q) : X E B d 0 0 yX3_run cX3_run 8 (some .long) (some (.long q.1), (n, K, P, I, q.2)) 45 [(0, .ref a0), (2, .int a2), (3, .ref a3), (4, .ref a4), (5, .int a5), (6, .int a6), (7, .int a7)] [] 0 0 (n, K, P, I, L) := by
  obtain ⟨d, rfl⟩ : ∃ d0, d = d0 + 1 := ⟨d - 1, by omega⟩
  unfold mX3_run_45 at hm
  refine X_iload 4 dX3_run_45 rfl ?_
  refine X_aload 3 dX3_run_47 rfl rfl ?_
  refine X_alen h4 (by decide) (by decide) dX3_run_49 ?_
  refine X_icmp_ge (tgt := 148) dX3_run_50 (by decide) (fun c9 => ?_) (fun c9 => ?_)
  · replace hm := ip c9 hm
    refine X_iinc (lv' := [(6, .int (a6 + 1)), (0, .ref a0), (2, .int a2), (3, .ref a3), (4, .ref a4), (5, .int a5), (7, .int a7)]) 5 dX3_run_148 rfl rfl (by decide) rfl ?_
    refine X_goto (tgt := 6) dX3_run_151 (by decide) ?_
    exact X_lv [1, 2, 3, 4, 5, 0] rfl (hb6 _ _ _ _ _ _ _ _ _ h0 h3 h4 hm)
  · replace hm := iq c9 hm
    refine X_aload 3 dX3_run_53 rfl rfl ?_
    refine X_iload 4 dX3_run_55 rfl ?_
    refine X_iload 6 dX3_run_57 rfl ?_
    refine X_bipush (v := (64 : Int32)) dX3_run_59 (by decide) ?_
    refine X_icmp_lt (tgt := 73) dX3_run_61 (by decide) (fun c10 => ?_) (fun c10 => ?_)
    · replace hm := ip c10 hm
      refine X_aload_n 2 dX3_run_73 rfl rfl rfl ?_
      refine X_iload 6 dX3_run_74 rfl ?_
      obtain ⟨g11, hm⟩ := og hm
      refine X_laldJ h3 g11 rfl dX3_run_76 ?_
      obtain ⟨g12, hm⟩ := og hm
      refine X_lastJ h4 g12 rfl dX3_run_77 ?_
      refine X_iinc (lv' := [(5, .int (a5 + 1)), (0, .ref a0), (2, .int a2), (3, .ref a3), (4, .ref a4), (6, .int a6), (7, .int a7)]) 4 dX3_run_78 rfl rfl (by decide) rfl ?_
      refine X_goto (tgt := 148) dX3_run_81 (by decide) ?_
      refine X_iinc (lv' := [(6, .int (a6 + 1)), (5, .int (a5 + 1)), (0, .ref a0), (2, .int a2), (3, .ref a3), (4, .ref a4), (7, .int a7)]) 5 dX3_run_148 rfl rfl (by decide) rfl ?_
      refine X_goto (tgt := 6) dX3_run_151 (by decide) ?_
      exact X_lv [2, 3, 4, 5, 1, 0] rfl (hb6 _ _ _ _ _ _ _ _ _ h0 h3 h4 hm)
    · replace hm := iq c10 hm
      refine X_iload 6 dX3_run_64 rfl ?_
      refine X_bipush (v := (64 : Int32)) dX3_run_66 (by decide) ?_
      refine X_isub dX3_run_68 ?_
      refine X_i2l dX3_run_69 ?_
      refine X_goto (tgt := 77) dX3_run_70 (by decide) ?_
      obtain ⟨g13, hm⟩ := og hm
      refine X_lastJ h4 g13 rfl dX3_run_77 ?_
      refine X_iinc (lv' := [(5, .int (a5 + 1)), (0, .ref a0), (2, .int a2), (3, .ref a3), (4, .ref a4), (6, .int a6), (7, .int a7)]) 4 dX3_run_78 rfl rfl (by decide) rfl ?_
      refine X_goto (tgt := 148) dX3_run_81 (by decide) ?_
      refine X_iinc (lv' := [(6, .int (a6 + 1)), (5, .int (a5 + 1)), (0, .ref a0), (2, .int a2), (3, .ref a3), (4, .ref a4), (7, .int a7)]) 5 dX3_run_148 rfl rfl (by decide) rfl ?_
      refine X_goto (tgt := 6) dX3_run_151 (by decide) ?_
      exact X_lv [2, 3, 4, 5, 1, 0] rfl (hb6 _ _ _ _ _ _ _ _ _ h0 h3 h4 hm)
def mX3_run_6 (K : Nat → Nat × Nat) (I : Nat → Nat → Int32)  : Nat → (Nat → Nat → Int64) → Nat → Int32 → Nat → Nat → Nat → Nat → Int32 → Int32 → Option (Int64 × (Nat → Nat → Int64))
  | 0, _, _, _, _, _, _, _, _, _ => none
  | f + 1, L, a0, a2, a3, z3, a4, z4, a5, a6 => (if a2 ≤ a6 then (if a5 ≤ 0 then (some ((0 : Int64), L)) else (if inb (0 : Int32) z4 = true then (some ((L a4 0), L)) else none)) else (if (nI (K (a0 + 1)).2) ≤ a6 then (if a5 ≤ 0 then (some ((0 : Int64), L)) else (if inb (0 : Int32) z4 = true then (some ((L a4 0), L)) else none)) else (if inb a6 (K (a0 + 1)).2 = true then (if (64 : Int32) ≤ (I (a0 + 1) (ix a6)) then (mX3_run_45 K I (fun (L : Nat → Nat → Int64) (a0 : Nat) (a2 : Int32) (a3 : Nat) (z3 : Nat) (a4 : Nat) (z4 : Nat) (a5 : Int32) (a6 : Int32) => mX3_run_6 K I f L a0 a2 a3 z3 a4 z4 a5 a6) L a0 a2 a3 z3 a4 z4 a5 a6 (I (a0 + 1) (ix a6))) else (if (13 : Int32) ≤ (I (a0 + 1) (ix a6)) then (if (I (a0 + 1) (ix a6)) = (21 : Int32) then (if a5 ≤ 0 then (mX3_run_6 K I f L a0 a2 a3 z3 a4 z4 a5 (a6 + 1)) else (if inb (a5 - (1 : Int32)) z4 = true then (if inb (a5 - (1 : Int32)) z4 = true then (mX3_run_6 K I f (xu L a4 (ix (a5 - (1 : Int32))) ((1 : Int64) - (L a4 (ix (a5 - (1 : Int32)))))) a0 a2 a3 z3 a4 z4 a5 (a6 + 1)) else none) else none)) else (if a5 ≤ (1 : Int32) then (mX3_run_6 K I f L a0 a2 a3 z3 a4 z4 a5 (a6 + 1)) else (if inb ((a5 + (-1)) - (1 : Int32)) z4 = true then (if inb (a5 + (-1)) z4 = true then (Option.bind (mX3_joined (I (a0 + 1) (ix a6)) (L a4 (ix ((a5 + (-1)) - (1 : Int32)))) (L a4 (ix (a5 + (-1))))) (fun q19 => (if inb ((a5 + (-1)) - (1 : Int32)) z4 = true then (mX3_run_6 K I f (xu L a4 (ix ((a5 + (-1)) - (1 : Int32))) q19) a0 a2 a3 z3 a4 z4 (a5 + (-1)) (a6 + 1)) else none))) else none) else none))) else (mX3_run_45 K I (fun (L : Nat → Nat → Int64) (a0 : Nat) (a2 : Int32) (a3 : Nat) (z3 : Nat) (a4 : Nat) (z4 : Nat) (a5 : Int32) (a6 : Int32) => mX3_run_6 K I f L a0 a2 a3 z3 a4 z4 a5 a6) L a0 a2 a3 z3 a4 z4 a5 a6 (I (a0 + 1) (ix a6))))) else none)))
set_option maxHeartbeats 400000 in
set_option maxRecDepth 100000 in
theorem kX3_run_6 {E : xE} {B : Nat} {n : Nat} {K : Nat → Nat × Nat} {P : Nat → Nat → Nat} {I : Nat → Nat → Int32}   {q : Int64 × (Nat → Nat → Int64)} (d : Nat) (hd : 1 ≤ d) (G : GW K P)   : ∀ (f : Nat) (L : Nat → Nat → Int64) (a0 : Nat) (a2 : Int32) (a3 : Nat) (z3 : Nat) (a4 : Nat) (z4 : Nat) (a5 : Int32) (a6 : Int32), K a0 = (2, 0) → K a3 = (21, z3) → K a4 = (21, z4) → mX3_run_6 K I f L a0 a2 a3 z3 a4 z4 a5 a6 = some q → X E B d 0 0 yX3_run cX3_run 8 (some .long) (some (.long q.1), (n, K, P, I, q.2)) 6 [(0, .ref a0), (2, .int a2), (3, .ref a3), (4, .ref a4), (5, .int a5), (6, .int a6)] [] 0 0 (n, K, P, I, L) := by
  obtain ⟨d, rfl⟩ : ∃ d0, d = d0 + 1 := ⟨d - 1, by omega⟩
  intro f
  induction f with
  | zero => intro _ _ _ _ _ _ _ _ _ _ _ _ hm; exact nomatch (show (none : Option (Int64 × (Nat → Nat → Int64))) = some q from hm)
  | succ f ih =>
    intro L a0 a2 a3 z3 a4 z4 a5 a6 h0 h3 h4 hm
    rw [mX3_run_6] at hm
    refine X_iload 5 dX3_run_6 rfl ?_
    refine X_iload_n 1 dX3_run_8 rfl rfl ?_
    refine X_icmp_ge (tgt := 154) dX3_run_9 (by decide) (fun c1 => ?_) (fun c1 => ?_)
    · replace hm := ip c1 hm
      refine X_iload 4 dX3_run_154 rfl ?_
      refine X_if_le (tgt := 166) dX3_run_156 (by decide) (fun c2 => ?_) (fun c2 => ?_)
      · replace hm := ip c2 hm
        refine X_lconst (v := (0 : Int64)) dX3_run_166 (by decide) ?_
        replace hm := Option.some.inj hm
        subst hm
        exact X_lret dX3_run_167 rfl
      · replace hm := iq c2 hm
        refine X_aload 3 dX3_run_159 rfl rfl ?_
        refine X_iconst (v := (0 : Int32)) dX3_run_161 (by decide) ?_
        obtain ⟨g3, hm⟩ := og hm
        refine X_laldJ (j := 0) h4 g3 (by decide) dX3_run_162 ?_
        refine X_goto (tgt := 167) dX3_run_163 (by decide) ?_
        replace hm := Option.some.inj hm
        subst hm
        exact X_lret dX3_run_167 rfl
    · replace hm := iq c1 hm
      refine X_iload 5 dX3_run_12 rfl ?_
      refine X_aload_n 0 dX3_run_14 rfl rfl rfl ?_
      refine X_getPe fl_X3_7 h0 rfl (gl2_P0 G h0) dX3_run_15 ?_
      refine X_alen (gl2_K1 G h0) (by decide) (by decide) dX3_run_18 ?_
      refine X_icmp_ge (tgt := 154) dX3_run_19 (by decide) (fun c4 => ?_) (fun c4 => ?_)
      · replace hm := ip c4 hm
        refine X_iload 4 dX3_run_154 rfl ?_
        refine X_if_le (tgt := 166) dX3_run_156 (by decide) (fun c5 => ?_) (fun c5 => ?_)
        · replace hm := ip c5 hm
          refine X_lconst (v := (0 : Int64)) dX3_run_166 (by decide) ?_
          replace hm := Option.some.inj hm
          subst hm
          exact X_lret dX3_run_167 rfl
        · replace hm := iq c5 hm
          refine X_aload 3 dX3_run_159 rfl rfl ?_
          refine X_iconst (v := (0 : Int32)) dX3_run_161 (by decide) ?_
          obtain ⟨g6, hm⟩ := og hm
          refine X_laldJ (j := 0) h4 g6 (by decide) dX3_run_162 ?_
          refine X_goto (tgt := 167) dX3_run_163 (by decide) ?_
          replace hm := Option.some.inj hm
          subst hm
          exact X_lret dX3_run_167 rfl
      · replace hm := iq c4 hm
        refine X_aload_n 0 dX3_run_22 rfl rfl rfl ?_
        refine X_getPe fl_X3_7 h0 rfl (gl2_P0 G h0) dX3_run_23 ?_
        refine X_iload 5 dX3_run_26 rfl ?_
        obtain ⟨g7, hm⟩ := og hm
        refine X_ialdJ (gl2_K1 G h0) g7 rfl dX3_run_28 ?_
        refine X_istore (lv' := [(7, .int (I (a0 + 1) (ix a6))), (0, .ref a0), (2, .int a2), (3, .ref a3), (4, .ref a4), (5, .int a5), (6, .int a6)]) dX3_run_29 (by decide) rfl ?_
        refine X_iload 0 dX3_run_31 rfl ?_
        refine X_bipush (v := (64 : Int32)) dX3_run_33 (by decide) ?_
        refine X_icmp_ge (tgt := 45) dX3_run_35 (by decide) (fun c8 => ?_) (fun c8 => ?_)
        · replace hm := ip c8 hm
          exact X_lv [1, 2, 3, 4, 5, 6, 0] rfl (kX3_run_45 _ hd G ih h0 h3 h4 hm)
        · replace hm := iq c8 hm
          refine X_iload 0 dX3_run_38 rfl ?_
          refine X_bipush (v := (13 : Int32)) dX3_run_40 (by decide) ?_
          refine X_icmp_ge (tgt := 84) dX3_run_42 (by decide) (fun c14 => ?_) (fun c14 => ?_)
          · replace hm := ip c14 hm
            refine X_iload 0 dX3_run_84 rfl ?_
            refine X_bipush (v := (21 : Int32)) dX3_run_86 (by decide) ?_
            refine X_icmp_ne (tgt := 115) dX3_run_88 (by decide) (fun c15 => ?_) (fun c15 => ?_)
            · replace hm := iq c15 hm
              refine X_iload 5 dX3_run_115 rfl ?_
              refine X_iconst (v := (1 : Int32)) dX3_run_117 (by decide) ?_
              refine X_icmp_le (tgt := 148) dX3_run_118 (by decide) (fun c16 => ?_) (fun c16 => ?_)
              · replace hm := ip c16 hm
                refine X_iinc (lv' := [(6, .int (a6 + 1)), (7, .int (I (a0 + 1) (ix a6))), (0, .ref a0), (2, .int a2), (3, .ref a3), (4, .ref a4), (5, .int a5)]) 6 dX3_run_148 rfl rfl (by decide) rfl ?_
                refine X_goto (tgt := 6) dX3_run_151 (by decide) ?_
                exact X_lv [2, 3, 4, 5, 6, 0] rfl (ih _ _ _ _ _ _ _ _ _ h0 h3 h4 hm)
              · replace hm := iq c16 hm
                refine X_iinc (lv' := [(5, .int (a5 + (-1))), (7, .int (I (a0 + 1) (ix a6))), (0, .ref a0), (2, .int a2), (3, .ref a3), (4, .ref a4), (6, .int a6)]) 5 dX3_run_121 rfl rfl (by decide) rfl ?_
                refine X_aload 5 dX3_run_124 rfl rfl ?_
                refine X_iload 0 dX3_run_126 rfl ?_
                refine X_iconst (v := (1 : Int32)) dX3_run_128 (by decide) ?_
                refine X_isub dX3_run_129 ?_
                refine X_iload 1 dX3_run_130 rfl ?_
                refine X_aload 5 dX3_run_132 rfl rfl ?_
                refine X_iload 0 dX3_run_134 rfl ?_
                refine X_iconst (v := (1 : Int32)) dX3_run_136 (by decide) ?_
                refine X_isub dX3_run_137 ?_
                obtain ⟨g17, hm⟩ := og hm
                refine X_laldJ h4 g17 rfl dX3_run_138 ?_
                refine X_aload 5 dX3_run_139 rfl rfl ?_
                refine X_iload 0 dX3_run_141 rfl ?_
                obtain ⟨g18, hm⟩ := og hm
                refine X_laldJ h4 g18 rfl dX3_run_143 ?_
                obtain ⟨q19, e20, hm⟩ := ob hm
                refine X_cS1 (kX3_joined d (by omega) G e20) ml_X3_25 ms_X3_joined rfl rfl (Nat.le_refl _) ⟨Nat.le_refl _, Nat.le_refl _⟩ (Nat.le_of_ble_eq_true rfl) dX3_run_144 ?_
                obtain ⟨g21, hm⟩ := og hm
                refine X_lastJ h4 g21 rfl dX3_run_147 ?_
                refine X_iinc (lv' := [(6, .int (a6 + 1)), (5, .int (a5 + (-1))), (7, .int (I (a0 + 1) (ix a6))), (0, .ref a0), (2, .int a2), (3, .ref a3), (4, .ref a4)]) 6 dX3_run_148 rfl rfl (by decide) rfl ?_
                refine X_goto (tgt := 6) dX3_run_151 (by decide) ?_
                exact X_lv [3, 4, 5, 6, 1, 0] rfl (ih _ _ _ _ _ _ _ _ _ h0 h3 h4 hm)
            · replace hm := ip c15 hm
              refine X_iload 5 dX3_run_91 rfl ?_
              refine X_if_le (tgt := 148) dX3_run_93 (by decide) (fun c22 => ?_) (fun c22 => ?_)
              · replace hm := ip c22 hm
                refine X_iinc (lv' := [(6, .int (a6 + 1)), (7, .int (I (a0 + 1) (ix a6))), (0, .ref a0), (2, .int a2), (3, .ref a3), (4, .ref a4), (5, .int a5)]) 6 dX3_run_148 rfl rfl (by decide) rfl ?_
                refine X_goto (tgt := 6) dX3_run_151 (by decide) ?_
                exact X_lv [2, 3, 4, 5, 6, 0] rfl (ih _ _ _ _ _ _ _ _ _ h0 h3 h4 hm)
              · replace hm := iq c22 hm
                refine X_aload 4 dX3_run_96 rfl rfl ?_
                refine X_iload 5 dX3_run_98 rfl ?_
                refine X_iconst (v := (1 : Int32)) dX3_run_100 (by decide) ?_
                refine X_isub dX3_run_101 ?_
                refine X_lconst (v := (1 : Int64)) dX3_run_102 (by decide) ?_
                refine X_aload 4 dX3_run_103 rfl rfl ?_
                refine X_iload 5 dX3_run_105 rfl ?_
                refine X_iconst (v := (1 : Int32)) dX3_run_107 (by decide) ?_
                refine X_isub dX3_run_108 ?_
                obtain ⟨g23, hm⟩ := og hm
                refine X_laldJ h4 g23 rfl dX3_run_109 ?_
                refine X_lsub dX3_run_110 ?_
                obtain ⟨g24, hm⟩ := og hm
                refine X_lastJ h4 g24 rfl dX3_run_111 ?_
                refine X_goto (tgt := 148) dX3_run_112 (by decide) ?_
                refine X_iinc (lv' := [(6, .int (a6 + 1)), (7, .int (I (a0 + 1) (ix a6))), (0, .ref a0), (2, .int a2), (3, .ref a3), (4, .ref a4), (5, .int a5)]) 6 dX3_run_148 rfl rfl (by decide) rfl ?_
                refine X_goto (tgt := 6) dX3_run_151 (by decide) ?_
                exact X_lv [2, 3, 4, 5, 6, 0] rfl (ih _ _ _ _ _ _ _ _ _ h0 h3 h4 hm)
          · replace hm := iq c14 hm
            exact X_lv [1, 2, 3, 4, 5, 6, 0] rfl (kX3_run_45 _ hd G ih h0 h3 h4 hm)
def mX3_run (K : Nat → Nat × Nat) (I : Nat → Nat → Int32) (L : Nat → Nat → Int64) (a0 : Nat) (a1 : Int32) (a2 : Int32) (a3 : Nat) (z3 : Nat) (a4 : Nat) (z4 : Nat) : Option (Int64 × (Nat → Nat → Int64)) := (mX3_run_6 K I xf L a0 a2 a3 z3 a4 z4 (0 : Int32) a1)
set_option maxHeartbeats 400000 in
set_option maxRecDepth 100000 in
theorem kX3_run {E : xE} {B : Nat} {n : Nat} {K : Nat → Nat × Nat} {P : Nat → Nat → Nat} {I : Nat → Nat → Int32} {L : Nat → Nat → Int64}  {a0 : Nat} {a1 : Int32} {a2 : Int32} {a3 : Nat} {z3 : Nat} {a4 : Nat} {z4 : Nat} {q : Int64 × (Nat → Nat → Int64)} (d : Nat) (hd : 1 ≤ d) (G : GW K P)  (h0 : K a0 = (2, 0)) (h3 : K a3 = (21, z3)) (h4 : K a4 = (21, z4)) (hm : mX3_run K I L a0 a1 a2 a3 z3 a4 z4 = some q) : MX E B d 0 0 yX3_run cX3_run 8 (some .long) [.ref a0, .int a1, .int a2, .ref a3, .ref a4] (n, K, P, I, L) (some (.long q.1), (n, K, P, I, q.2)) := by
  refine MX_of (lv := [(0, .ref a0), (1, .int a1), (2, .int a2), (3, .ref a3), (4, .ref a4)]) (by decide +kernel) (Nat.le_of_ble_eq_true rfl) rfl ?_
  obtain ⟨d, rfl⟩ : ∃ d0, d = d0 + 1 := ⟨d - 1, by omega⟩
  unfold mX3_run at hm
  refine X_iconst (v := (0 : Int32)) dX3_run_0 (by decide) ?_
  refine X_istore (lv' := [(5, .int (0 : Int32)), (0, .ref a0), (1, .int a1), (2, .int a2), (3, .ref a3), (4, .ref a4)]) dX3_run_1 (by decide) rfl ?_
  refine X_iload_n 2 dX3_run_3 rfl rfl ?_
  refine X_istore (lv' := [(6, .int a1), (5, .int (0 : Int32)), (0, .ref a0), (1, .int a1), (2, .int a2), (3, .ref a3), (4, .ref a4)]) dX3_run_4 (by decide) rfl ?_
  refine X_lv [2, 4, 5, 6, 1, 0] rfl (kX3_run_6 _ hd G xf _ _ _ _ _ _ _ _ _ h0 h3 h4 hm)
def mX3_valueFor_5 (K : Nat → Nat × Nat) (I : Nat → Nat → Int32) (e67 : (Nat → Nat → Int64) → Nat → Nat → Nat → Nat → Nat → Int32 → Int32 → Option (Int64 × (Nat → Nat → Int64))) : Nat → (Nat → Nat → Int64) → Nat → Nat → Nat → Nat → Nat → Int32 → Int32 → Option (Int64 × (Nat → Nat → Int64))
  | 0, _, _, _, _, _, _, _, _ => none
  | f + 1, L, a0, a1, z1, a2, z2, a3, a4 => (if (nI (K (a0 + 2)).2) ≤ a4 then (some ((0 : Int64), L)) else (if (nI (K (a0 + 3)).2) ≤ a4 then (some ((0 : Int64), L)) else (if inb a4 (K (a0 + 2)).2 = true then (if inb a4 (K (a0 + 3)).2 = true then (if (I (a0 + 2) (ix a4)) = (I (a0 + 3) (ix a4)) then (e67 L a0 a1 z1 a2 z2 a3 a4) else (if inb a4 (K (a0 + 2)).2 = true then (if inb a4 (K (a0 + 3)).2 = true then (Option.bind (mX3_run K I L a0 (I (a0 + 2) (ix a4)) (I (a0 + 3) (ix a4)) a1 z1 a2 z2) (fun q8 => (if (lg_cmp q8.1 (0 : Int64)) = 0 then (if inb a4 (K (a0 + 3)).2 = true then (mX3_valueFor_5 K I e67 f q8.2 a0 a1 z1 a2 z2 (I (a0 + 3) (ix a4)) (a4 + 1)) else none) else (e67 q8.2 a0 a1 z1 a2 z2 a3 a4)))) else none) else none)) else none) else none)))
set_option maxHeartbeats 400000 in
set_option maxRecDepth 100000 in
theorem kX3_valueFor_5 {E : xE} {B : Nat} {n : Nat} {K : Nat → Nat × Nat} {P : Nat → Nat → Nat} {I : Nat → Nat → Int32}  {e67 : (Nat → Nat → Int64) → Nat → Nat → Nat → Nat → Nat → Int32 → Int32 → Option (Int64 × (Nat → Nat → Int64))} {q : Int64 × (Nat → Nat → Int64)} (d : Nat) (hd : 2 ≤ d) (G : GW K P)  (he67 : ∀ (L : Nat → Nat → Int64) (a0 : Nat) (a1 : Nat) (z1 : Nat) (a2 : Nat) (z2 : Nat) (a3 : Int32) (a4 : Int32), K a0 = (2, 0) → K a1 = (21, z1) → K a2 = (21, z2) → e67 L a0 a1 z1 a2 z2 a3 a4 = some q → X E B d 0 0 yX3_valueFor cX3_valueFor 5 (some .long) (some (.long q.1), (n, K, P, I, q.2)) 67 [(0, .ref a0), (1, .ref a1), (2, .ref a2), (3, .int a3), (4, .int a4)] [] 0 0 (n, K, P, I, L)) : ∀ (f : Nat) (L : Nat → Nat → Int64) (a0 : Nat) (a1 : Nat) (z1 : Nat) (a2 : Nat) (z2 : Nat) (a3 : Int32) (a4 : Int32), K a0 = (2, 0) → K a1 = (21, z1) → K a2 = (21, z2) → mX3_valueFor_5 K I e67 f L a0 a1 z1 a2 z2 a3 a4 = some q → X E B d 0 0 yX3_valueFor cX3_valueFor 5 (some .long) (some (.long q.1), (n, K, P, I, q.2)) 5 [(0, .ref a0), (1, .ref a1), (2, .ref a2), (3, .int a3), (4, .int a4)] [] 0 0 (n, K, P, I, L) := by
  obtain ⟨d, rfl⟩ : ∃ d0, d = d0 + 1 := ⟨d - 1, by omega⟩
  intro f
  induction f with
  | zero => intro _ _ _ _ _ _ _ _ _ _ _ hm; exact nomatch (show (none : Option (Int64 × (Nat → Nat → Int64))) = some q from hm)
  | succ f ih =>
    intro L a0 a1 z1 a2 z2 a3 a4 h0 h1 h2 hm
    rw [mX3_valueFor_5] at hm
    refine X_iload 4 dX3_valueFor_5 rfl ?_
    refine X_aload_n 0 dX3_valueFor_7 rfl rfl rfl ?_
    refine X_getPe fl_X3_13 h0 rfl (gl2_P1 G h0) dX3_valueFor_8 ?_
    refine X_alen (gl2_K2 G h0) (by decide) (by decide) dX3_valueFor_11 ?_
    refine X_icmp_ge (tgt := 96) dX3_valueFor_12 (by decide) (fun c1 => ?_) (fun c1 => ?_)
    · replace hm := ip c1 hm
      refine X_lconst (v := (0 : Int64)) dX3_valueFor_96 (by decide) ?_
      replace hm := Option.some.inj hm
      subst hm
      exact X_lret dX3_valueFor_97 rfl
    · replace hm := iq c1 hm
      refine X_iload 4 dX3_valueFor_15 rfl ?_
      refine X_aload_n 0 dX3_valueFor_17 rfl rfl rfl ?_
      refine X_getPe fl_X3_16 h0 rfl (gl2_P2 G h0) dX3_valueFor_18 ?_
      refine X_alen (gl2_K3 G h0) (by decide) (by decide) dX3_valueFor_21 ?_
      refine X_icmp_ge (tgt := 96) dX3_valueFor_22 (by decide) (fun c2 => ?_) (fun c2 => ?_)
      · replace hm := ip c2 hm
        refine X_lconst (v := (0 : Int64)) dX3_valueFor_96 (by decide) ?_
        replace hm := Option.some.inj hm
        subst hm
        exact X_lret dX3_valueFor_97 rfl
      · replace hm := iq c2 hm
        refine X_aload_n 0 dX3_valueFor_25 rfl rfl rfl ?_
        refine X_getPe fl_X3_13 h0 rfl (gl2_P1 G h0) dX3_valueFor_26 ?_
        refine X_iload 4 dX3_valueFor_29 rfl ?_
        obtain ⟨g3, hm⟩ := og hm
        refine X_ialdJ (gl2_K2 G h0) g3 rfl dX3_valueFor_31 ?_
        refine X_aload_n 0 dX3_valueFor_32 rfl rfl rfl ?_
        refine X_getPe fl_X3_16 h0 rfl (gl2_P2 G h0) dX3_valueFor_33 ?_
        refine X_iload 4 dX3_valueFor_36 rfl ?_
        obtain ⟨g4, hm⟩ := og hm
        refine X_ialdJ (gl2_K3 G h0) g4 rfl dX3_valueFor_38 ?_
        refine X_icmp_eq (tgt := 67) dX3_valueFor_39 (by decide) (fun c5 => ?_) (fun c5 => ?_)
        · replace hm := ip c5 hm
          exact he67 _ _ _ _ _ _ _ _ h0 h1 h2 hm
        · replace hm := iq c5 hm
          refine X_aload_n 0 dX3_valueFor_42 rfl rfl rfl ?_
          refine X_aload_n 0 dX3_valueFor_43 rfl rfl rfl ?_
          refine X_getPe fl_X3_13 h0 rfl (gl2_P1 G h0) dX3_valueFor_44 ?_
          refine X_iload 4 dX3_valueFor_47 rfl ?_
          obtain ⟨g6, hm⟩ := og hm
          refine X_ialdJ (gl2_K2 G h0) g6 rfl dX3_valueFor_49 ?_
          refine X_aload_n 0 dX3_valueFor_50 rfl rfl rfl ?_
          refine X_getPe fl_X3_16 h0 rfl (gl2_P2 G h0) dX3_valueFor_51 ?_
          refine X_iload 4 dX3_valueFor_54 rfl ?_
          obtain ⟨g7, hm⟩ := og hm
          refine X_ialdJ (gl2_K3 G h0) g7 rfl dX3_valueFor_56 ?_
          refine X_aload_n 1 dX3_valueFor_57 rfl rfl rfl ?_
          refine X_aload_n 2 dX3_valueFor_58 rfl rfl rfl ?_
          obtain ⟨q8, e9, hm⟩ := ob hm
          refine X_cV1 (ci := 2) (kX3_run d (by omega) G h0 h1 h2 e9) ml_X3_19 mi_X3_run rfl cf_2 h0 rfl rfl (Nat.le_refl _) ⟨Nat.le_refl _, Nat.le_refl _⟩ (Nat.le_of_ble_eq_true rfl) dX3_valueFor_59 ?_
          refine X_lconst (v := (0 : Int64)) dX3_valueFor_62 (by decide) ?_
          refine X_lcmp dX3_valueFor_63 ?_
          refine X_if_eq (tgt := 82) dX3_valueFor_64 (by decide) (fun c10 => ?_) (fun c10 => ?_)
          · replace hm := ip c10 hm
            refine X_aload_n 0 dX3_valueFor_82 rfl rfl rfl ?_
            refine X_getPe fl_X3_16 h0 rfl (gl2_P2 G h0) dX3_valueFor_83 ?_
            refine X_iload 4 dX3_valueFor_86 rfl ?_
            obtain ⟨g11, hm⟩ := og hm
            refine X_ialdJ (gl2_K3 G h0) g11 rfl dX3_valueFor_88 ?_
            refine X_istore_n (lv' := [(3, .int (I (a0 + 3) (ix a4))), (0, .ref a0), (1, .ref a1), (2, .ref a2), (4, .int a4)]) dX3_valueFor_89 rfl (by decide) rfl ?_
            refine X_iinc (lv' := [(4, .int (a4 + 1)), (3, .int (I (a0 + 3) (ix a4))), (0, .ref a0), (1, .ref a1), (2, .ref a2)]) 4 dX3_valueFor_90 rfl rfl (by decide) rfl ?_
            refine X_goto (tgt := 5) dX3_valueFor_93 (by decide) ?_
            exact X_lv [2, 3, 4, 1, 0] rfl (ih _ _ _ _ _ _ _ _ h0 h1 h2 hm)
          · replace hm := iq c10 hm
            exact he67 _ _ _ _ _ _ _ _ h0 h1 h2 hm
def mX3_valueFor_67 (K : Nat → Nat × Nat) (I : Nat → Nat → Int32) (L : Nat → Nat → Int64) (a0 : Nat) (a1 : Nat) (z1 : Nat) (a2 : Nat) (z2 : Nat) (a3 : Int32) (a4 : Int32) : Option (Int64 × (Nat → Nat → Int64)) := (if inb a4 (K (a0 + 2)).2 = true then (Option.bind (mX3_run K I L a0 a3 (I (a0 + 2) (ix a4)) a1 z1 a2 z2) (fun q14 => (some (q14.1, q14.2)))) else none)
set_option maxHeartbeats 400000 in
set_option maxRecDepth 100000 in
theorem kX3_valueFor_67 {E : xE} {B : Nat} {n : Nat} {K : Nat → Nat × Nat} {P : Nat → Nat → Nat} {I : Nat → Nat → Int32} {L : Nat → Nat → Int64}   {a0 : Nat} {a1 : Nat} {z1 : Nat} {a2 : Nat} {z2 : Nat} {a3 : Int32} {a4 : Int32} {q : Int64 × (Nat → Nat → Int64)} (d : Nat) (hd : 2 ≤ d) (G : GW K P)   (h0 : K a0 = (2, 0)) (h1 : K a1 = (21, z1)) (h2 : K a2 = (21, z2)) (hm : mX3_valueFor_67 K I L a0 a1 z1 a2 z2 a3 a4 = some q) : X E B d 0 0 yX3_valueFor cX3_valueFor 5 (some .long) (some (.long q.1), (n, K, P, I, q.2)) 67 [(0, .ref a0), (1, .ref a1), (2, .ref a2), (3, .int a3), (4, .int a4)] [] 0 0 (n, K, P, I, L) := by
  obtain ⟨d, rfl⟩ : ∃ d0, d = d0 + 1 := ⟨d - 1, by omega⟩
  unfold mX3_valueFor_67 at hm
  refine X_aload_n 0 dX3_valueFor_67 rfl rfl rfl ?_
  refine X_iload_n 3 dX3_valueFor_68 rfl rfl ?_
  refine X_aload_n 0 dX3_valueFor_69 rfl rfl rfl ?_
  refine X_getPe fl_X3_13 h0 rfl (gl2_P1 G h0) dX3_valueFor_70 ?_
  refine X_iload 4 dX3_valueFor_73 rfl ?_
  obtain ⟨g13, hm⟩ := og hm
  refine X_ialdJ (gl2_K2 G h0) g13 rfl dX3_valueFor_75 ?_
  refine X_aload_n 1 dX3_valueFor_76 rfl rfl rfl ?_
  refine X_aload_n 2 dX3_valueFor_77 rfl rfl rfl ?_
  obtain ⟨q14, e15, hm⟩ := ob hm
  refine X_cV1 (ci := 2) (kX3_run d (by omega) G h0 h1 h2 e15) ml_X3_19 mi_X3_run rfl cf_2 h0 rfl rfl (Nat.le_refl _) ⟨Nat.le_refl _, Nat.le_refl _⟩ (Nat.le_of_ble_eq_true rfl) dX3_valueFor_78 ?_
  replace hm := Option.some.inj hm
  subst hm
  exact X_lret dX3_valueFor_81 rfl
def mX3_valueFor (K : Nat → Nat × Nat) (I : Nat → Nat → Int32) (L : Nat → Nat → Int64) (a0 : Nat) (a1 : Nat) (z1 : Nat) (a2 : Nat) (z2 : Nat) : Option (Int64 × (Nat → Nat → Int64)) := (mX3_valueFor_5 K I (fun (L_12 : (Nat → Nat → Int64)) (a0_12 : Nat) (a1_12 : Nat) (z1_12 : Nat) (a2_12 : Nat) (z2_12 : Nat) (a3_12 : Int32) (a4_12 : Int32) => (mX3_valueFor_67 K I L_12 a0_12 a1_12 z1_12 a2_12 z2_12 a3_12 a4_12)) xf L a0 a1 z1 a2 z2 (0 : Int32) (0 : Int32))
set_option maxHeartbeats 400000 in
set_option maxRecDepth 100000 in
theorem kX3_valueFor {E : xE} {B : Nat} {n : Nat} {K : Nat → Nat × Nat} {P : Nat → Nat → Nat} {I : Nat → Nat → Int32} {L : Nat → Nat → Int64}  {a0 : Nat} {a1 : Nat} {z1 : Nat} {a2 : Nat} {z2 : Nat} {q : Int64 × (Nat → Nat → Int64)} (d : Nat) (hd : 2 ≤ d) (G : GW K P)  (h0 : K a0 = (2, 0)) (h1 : K a1 = (21, z1)) (h2 : K a2 = (21, z2)) (hm : mX3_valueFor K I L a0 a1 z1 a2 z2 = some q) : MX E B d 0 0 yX3_valueFor cX3_valueFor 5 (some .long) [.ref a0, .ref a1, .ref a2] (n, K, P, I, L) (some (.long q.1), (n, K, P, I, q.2)) := by
  refine MX_of (lv := [(0, .ref a0), (1, .ref a1), (2, .ref a2)]) (by decide +kernel) (Nat.le_of_ble_eq_true rfl) rfl ?_
  obtain ⟨d, rfl⟩ : ∃ d0, d = d0 + 1 := ⟨d - 1, by omega⟩
  unfold mX3_valueFor at hm
  refine X_iconst (v := (0 : Int32)) dX3_valueFor_0 (by decide) ?_
  refine X_istore_n (lv' := [(3, .int (0 : Int32)), (0, .ref a0), (1, .ref a1), (2, .ref a2)]) dX3_valueFor_1 rfl (by decide) rfl ?_
  refine X_iconst (v := (0 : Int32)) dX3_valueFor_2 (by decide) ?_
  refine X_istore (lv' := [(4, .int (0 : Int32)), (3, .int (0 : Int32)), (0, .ref a0), (1, .ref a1), (2, .ref a2)]) dX3_valueFor_3 (by decide) rfl ?_
  refine X_lv [2, 3, 4, 1, 0] rfl (kX3_valueFor_5 _ hd G (fun L_12 a0_12 a1_12 z1_12 a2_12 z2_12 a3_12 a4_12 h0_12 h1_12 h2_12 hm => ?_) xf _ _ _ _ _ _ _ _ h0 h1 h2 hm)
  exact kX3_valueFor_67 _ hd G h0_12 h1_12 h2_12 hm

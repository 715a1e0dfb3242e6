def mX12_bits_4   : Nat → Int32 → Int32 → Int32 → Option (Int32)
  | 0, _, _, _ => none
  | f + 1, a0, a1, a2 => (if (16 : Int32) ≤ a2 then (some a1) else (mX12_bits_4 f a0 (a1 + ((xshr a0 a2) &&& (1 : Int32))) (a2 + 1)))
set_option maxHeartbeats 400000 in
set_option maxRecDepth 100000 in
theorem kX12_bits_4 {E : xE} {B : Nat} {n : Nat} {K : Nat → Nat × Nat} {P : Nat → Nat → Nat} {I : Nat → Nat → Int32} {L : Nat → Nat → Int64}   {q : Int32} (d : Nat) (hd : 0 ≤ d) (G : GW K P)   : ∀ (f : Nat) (a0 : Int32) (a1 : Int32) (a2 : Int32), mX12_bits_4 f a0 a1 a2 = some q → X E B d 0 0 yX12_bits cX12_bits 3 (some .int) (some (.int q), (n, K, P, I, L)) 4 [(0, .int a0), (1, .int a1), (2, .int a2)] [] 0 0 (n, K, P, I, L) := by
  intro f
  induction f with
  | zero => intro _ _ _ hm; exact nomatch (show (none : Option (Int32)) = some q from hm)
  | succ f ih =>
    intro a0 a1 a2 hm
    rw [mX12_bits_4] at hm
    refine X_iload_n 2 dX12_bits_4 rfl rfl ?_
    refine X_bipush (v := (16 : Int32)) dX12_bits_5 (by decide) ?_
    refine X_icmp_ge (tgt := 24) dX12_bits_7 (by decide) (fun c1 => ?_) (fun c1 => ?_)
    · replace hm := ip c1 hm
      refine X_iload_n 1 dX12_bits_24 rfl rfl ?_
      cases hm
      exact X_iret dX12_bits_25 rfl
    · replace hm := iq c1 hm
      refine X_iload_n 1 dX12_bits_10 rfl rfl ?_
      refine X_iload_n 0 dX12_bits_11 rfl rfl ?_
      refine X_iload_n 2 dX12_bits_12 rfl rfl ?_
      refine X_ishr dX12_bits_13 ?_
      refine X_iconst (v := (1 : Int32)) dX12_bits_14 (by decide) ?_
      refine X_iand dX12_bits_15 ?_
      refine X_iadd dX12_bits_16 ?_
      refine X_istore_n (lv' := [(1, .int (a1 + ((xshr a0 a2) &&& (1 : Int32)))), (0, .int a0), (2, .int a2)]) dX12_bits_17 rfl (by decide) rfl ?_
      refine X_iinc (lv' := [(2, .int (a2 + 1)), (1, .int (a1 + ((xshr a0 a2) &&& (1 : Int32)))), (0, .int a0)]) 2 dX12_bits_18 rfl rfl (by decide) rfl ?_
      refine X_goto (tgt := 4) dX12_bits_21 (by decide) ?_
      exact X_lv [2, 1, 0] rfl (ih _ _ _ hm)
def mX12_bits  (a0 : Int32) : Option (Int32) := (mX12_bits_4 xf a0 (0 : Int32) (0 : Int32))
set_option maxHeartbeats 400000 in
set_option maxRecDepth 100000 in
theorem kX12_bits {E : xE} {B : Nat} {n : Nat} {K : Nat → Nat × Nat} {P : Nat → Nat → Nat} {I : Nat → Nat → Int32} {L : Nat → Nat → Int64}  {a0 : Int32} {q : Int32} (d : Nat) (hd : 0 ≤ d) (G : GW K P)   (hm : mX12_bits a0 = some q) : MX E B d 0 0 yX12_bits cX12_bits 3 (some .int) [.int a0] (n, K, P, I, L) (some (.int q), (n, K, P, I, L)) := by
  refine MX_of (lv := [(0, .int a0)]) (by decide +kernel) (Nat.le_of_ble_eq_true rfl) rfl ?_
  unfold mX12_bits at hm
  refine X_iconst (v := (0 : Int32)) dX12_bits_0 (by decide) ?_
  refine X_istore_n (lv' := [(1, .int (0 : Int32)), (0, .int a0)]) dX12_bits_1 rfl (by decide) rfl ?_
  refine X_iconst (v := (0 : Int32)) dX12_bits_2 (by decide) ?_
  refine X_istore_n (lv' := [(2, .int (0 : Int32)), (1, .int (0 : Int32)), (0, .int a0)]) dX12_bits_3 rfl (by decide) rfl ?_
  refine X_lv [2, 1, 0] rfl (kX12_bits_4 _ hd G xf _ _ _  hm)
def mX12_has  (a0 : Int32) (a1 : Int32) : Option (Int32) := (if ((xshr a0 a1) &&& (1 : Int32)) = (1 : Int32) then (some (1 : Int32)) else (some (0 : Int32)))
set_option maxHeartbeats 400000 in
set_option maxRecDepth 100000 in
theorem kX12_has {E : xE} {B : Nat} {n : Nat} {K : Nat → Nat × Nat} {P : Nat → Nat → Nat} {I : Nat → Nat → Int32} {L : Nat → Nat → Int64}  {a0 : Int32} {a1 : Int32} {q : Int32} (d : Nat) (hd : 0 ≤ d) (G : GW K P)   (hm : mX12_has a0 a1 = some q) : MX E B d 0 0 yX12_has cX12_has 2 (some .boolean) [.int a0, .int a1] (n, K, P, I, L) (some (.int q), (n, K, P, I, L)) := by
  refine MX_of (lv := [(0, .int a0), (1, .int a1)]) (by decide +kernel) (Nat.le_of_ble_eq_true rfl) rfl ?_
  unfold mX12_has at hm
  refine X_iload_n 0 dX12_has_0 rfl rfl ?_
  refine X_iload_n 1 dX12_has_1 rfl rfl ?_
  refine X_ishr dX12_has_2 ?_
  refine X_iconst (v := (1 : Int32)) dX12_has_3 (by decide) ?_
  refine X_iand dX12_has_4 ?_
  refine X_iconst (v := (1 : Int32)) dX12_has_5 (by decide) ?_
  refine X_icmp_ne (tgt := 13) dX12_has_6 (by decide) (fun c1 => ?_) (fun c1 => ?_)
  · replace hm := iq c1 hm
    refine X_iconst (v := (0 : Int32)) dX12_has_13 (by decide) ?_
    cases hm
    exact X_zret (v := (0 : Int32)) dX12_has_14 rfl (x_nz (Or.inl rfl))
  · replace hm := ip c1 hm
    refine X_iconst (v := (1 : Int32)) dX12_has_9 (by decide) ?_
    refine X_goto (tgt := 14) dX12_has_10 (by decide) ?_
    cases hm
    exact X_zret (v := (1 : Int32)) dX12_has_14 rfl (x_nz (Or.inr rfl))
def mX12_isStreet (I : Nat → Nat → Int32)  : Option (Int32) := (if (I 124 0) ≤ 0 then (some (0 : Int32)) else (some (1 : Int32)))
set_option maxHeartbeats 400000 in
set_option maxRecDepth 100000 in
theorem kX12_isStreet {E : xE} {B : Nat} {n : Nat} {K : Nat → Nat × Nat} {P : Nat → Nat → Nat} {I : Nat → Nat → Int32} {L : Nat → Nat → Int64}   {q : Int32} (d : Nat) (hd : 0 ≤ d) (G : GW K P)   (hm : mX12_isStreet I = some q) : MX E B d 0 0 yX12_isStreet cX12_isStreet 1 (some .boolean) [.ref 123] (n, K, P, I, L) (some (.int q), (n, K, P, I, L)) := by
  refine MX_of (lv := [(0, .ref 123)]) (by decide +kernel) (Nat.le_of_ble_eq_true rfl) rfl ?_
  unfold mX12_isStreet at hm
  refine X_aload_n 0 dX12_isStreet_0 rfl rfl rfl ?_
  refine X_getPe fl_X12_9 (g_K123 G) rfl (g_P123_1 G) dX12_isStreet_1 ?_
  refine X_iconst (v := (0 : Int32)) dX12_isStreet_4 (by decide) ?_
  refine X_ialdJ (j := 0) (g_K124 G) rfl (by decide) dX12_isStreet_5 ?_
  refine X_if_le (tgt := 13) dX12_isStreet_6 (by decide) (fun c1 => ?_) (fun c1 => ?_)
  · replace hm := ip c1 hm
    refine X_iconst (v := (0 : Int32)) dX12_isStreet_13 (by decide) ?_
    cases hm
    exact X_zret (v := (0 : Int32)) dX12_isStreet_14 rfl (x_nz (Or.inl rfl))
  · replace hm := iq c1 hm
    refine X_iconst (v := (1 : Int32)) dX12_isStreet_9 (by decide) ?_
    refine X_goto (tgt := 14) dX12_isStreet_10 (by decide) ?_
    cases hm
    exact X_zret (v := (1 : Int32)) dX12_isStreet_14 rfl (x_nz (Or.inr rfl))
def mX12_isThing (I : Nat → Nat → Int32) (a1 : Int32) : Option (Int32) := (Option.bind (mX12_in a1.toInt64 (0 : Int64) ((I 124 3) - (1 : Int32)).toInt64) (fun q1 => (if q1 = 0 ∨ q1 = 1 then (some q1) else none)))
set_option maxHeartbeats 400000 in
set_option maxRecDepth 100000 in
theorem kX12_isThing {E : xE} {B : Nat} {n : Nat} {K : Nat → Nat × Nat} {P : Nat → Nat → Nat} {I : Nat → Nat → Int32} {L : Nat → Nat → Int64}  {a1 : Int32} {q : Int32} (d : Nat) (hd : 1 ≤ d) (G : GW K P)   (hm : mX12_isThing I a1 = some q) : MX E B d 0 0 yX12_isThing cX12_isThing 2 (some .boolean) [.ref 123, .int a1] (n, K, P, I, L) (some (.int q), (n, K, P, I, L)) := by
  refine MX_of (lv := [(0, .ref 123), (1, .int a1)]) (by decide +kernel) (Nat.le_of_ble_eq_true rfl) rfl ?_
  obtain ⟨d, rfl⟩ : ∃ d0, d = d0 + 1 := ⟨d - 1, by omega⟩
  unfold mX12_isThing at hm
  refine X_iload_n 1 dX12_isThing_0 rfl rfl ?_
  refine X_i2l dX12_isThing_1 ?_
  refine X_lconst (v := (0 : Int64)) dX12_isThing_2 (by decide) ?_
  refine X_aload_n 0 dX12_isThing_3 rfl rfl rfl ?_
  refine X_getPe fl_X12_9 (g_K123 G) rfl (g_P123_1 G) dX12_isThing_4 ?_
  refine X_iconst (v := (3 : Int32)) dX12_isThing_7 (by decide) ?_
  refine X_ialdJ (j := 3) (g_K124 G) rfl (by decide) dX12_isThing_8 ?_
  refine X_iconst (v := (1 : Int32)) dX12_isThing_9 (by decide) ?_
  refine X_isub dX12_isThing_10 ?_
  refine X_i2l dX12_isThing_11 ?_
  obtain ⟨q1, e2, hm⟩ := ob hm
  refine X_cS1 (kX12_in d (by omega) G e2) ml_X12_164 ms_X12_in rfl rfl (Nat.le_refl _) ⟨Nat.le_refl _, Nat.le_refl _⟩ (Nat.le_of_ble_eq_true rfl) dX12_isThing_12 ?_
  obtain ⟨g3, hm⟩ := og hm
  cases hm
  exact X_zret dX12_isThing_15 rfl (x_nz g3)
def mX12_isCell (I : Nat → Nat → Int32) (a1 : Int32) : Option (Int32) := (Option.bind (mX12_in a1.toInt64 (0 : Int64) ((I 124 4) - (1 : Int32)).toInt64) (fun q1 => (if q1 = 0 ∨ q1 = 1 then (some q1) else none)))
set_option maxHeartbeats 400000 in
set_option maxRecDepth 100000 in
theorem kX12_isCell {E : xE} {B : Nat} {n : Nat} {K : Nat → Nat × Nat} {P : Nat → Nat → Nat} {I : Nat → Nat → Int32} {L : Nat → Nat → Int64}  {a1 : Int32} {q : Int32} (d : Nat) (hd : 1 ≤ d) (G : GW K P)   (hm : mX12_isCell I a1 = some q) : MX E B d 0 0 yX12_isCell cX12_isCell 2 (some .boolean) [.ref 123, .int a1] (n, K, P, I, L) (some (.int q), (n, K, P, I, L)) := by
  refine MX_of (lv := [(0, .ref 123), (1, .int a1)]) (by decide +kernel) (Nat.le_of_ble_eq_true rfl) rfl ?_
  obtain ⟨d, rfl⟩ : ∃ d0, d = d0 + 1 := ⟨d - 1, by omega⟩
  unfold mX12_isCell at hm
  refine X_iload_n 1 dX12_isCell_0 rfl rfl ?_
  refine X_i2l dX12_isCell_1 ?_
  refine X_lconst (v := (0 : Int64)) dX12_isCell_2 (by decide) ?_
  refine X_aload_n 0 dX12_isCell_3 rfl rfl rfl ?_
  refine X_getPe fl_X12_9 (g_K123 G) rfl (g_P123_1 G) dX12_isCell_4 ?_
  refine X_iconst (v := (4 : Int32)) dX12_isCell_7 (by decide) ?_
  refine X_ialdJ (j := 4) (g_K124 G) rfl (by decide) dX12_isCell_8 ?_
  refine X_iconst (v := (1 : Int32)) dX12_isCell_9 (by decide) ?_
  refine X_isub dX12_isCell_10 ?_
  refine X_i2l dX12_isCell_11 ?_
  obtain ⟨q1, e2, hm⟩ := ob hm
  refine X_cS1 (kX12_in d (by omega) G e2) ml_X12_164 ms_X12_in rfl rfl (Nat.le_refl _) ⟨Nat.le_refl _, Nat.le_refl _⟩ (Nat.le_of_ble_eq_true rfl) dX12_isCell_12 ?_
  obtain ⟨g3, hm⟩ := og hm
  cases hm
  exact X_zret dX12_isCell_15 rfl (x_nz g3)
def mX12_isPainter (I : Nat → Nat → Int32) (a1 : Int32) : Option (Int32) := (Option.bind (mX12_in a1.toInt64 (0 : Int64) ((I 124 5) - (1 : Int32)).toInt64) (fun q1 => (if q1 = 0 ∨ q1 = 1 then (some q1) else none)))
set_option maxHeartbeats 400000 in
set_option maxRecDepth 100000 in
theorem kX12_isPainter {E : xE} {B : Nat} {n : Nat} {K : Nat → Nat × Nat} {P : Nat → Nat → Nat} {I : Nat → Nat → Int32} {L : Nat → Nat → Int64}  {a1 : Int32} {q : Int32} (d : Nat) (hd : 1 ≤ d) (G : GW K P)   (hm : mX12_isPainter I a1 = some q) : MX E B d 0 0 yX12_isPainter cX12_isPainter 2 (some .boolean) [.ref 123, .int a1] (n, K, P, I, L) (some (.int q), (n, K, P, I, L)) := by
  refine MX_of (lv := [(0, .ref 123), (1, .int a1)]) (by decide +kernel) (Nat.le_of_ble_eq_true rfl) rfl ?_
  obtain ⟨d, rfl⟩ : ∃ d0, d = d0 + 1 := ⟨d - 1, by omega⟩
  unfold mX12_isPainter at hm
  refine X_iload_n 1 dX12_isPainter_0 rfl rfl ?_
  refine X_i2l dX12_isPainter_1 ?_
  refine X_lconst (v := (0 : Int64)) dX12_isPainter_2 (by decide) ?_
  refine X_aload_n 0 dX12_isPainter_3 rfl rfl rfl ?_
  refine X_getPe fl_X12_9 (g_K123 G) rfl (g_P123_1 G) dX12_isPainter_4 ?_
  refine X_iconst (v := (5 : Int32)) dX12_isPainter_7 (by decide) ?_
  refine X_ialdJ (j := 5) (g_K124 G) rfl (by decide) dX12_isPainter_8 ?_
  refine X_iconst (v := (1 : Int32)) dX12_isPainter_9 (by decide) ?_
  refine X_isub dX12_isPainter_10 ?_
  refine X_i2l dX12_isPainter_11 ?_
  obtain ⟨q1, e2, hm⟩ := ob hm
  refine X_cS1 (kX12_in d (by omega) G e2) ml_X12_164 ms_X12_in rfl rfl (Nat.le_refl _) ⟨Nat.le_refl _, Nat.le_refl _⟩ (Nat.le_of_ble_eq_true rfl) dX12_isPainter_12 ?_
  obtain ⟨g3, hm⟩ := og hm
  cases hm
  exact X_zret dX12_isPainter_15 rfl (x_nz g3)
def mX12_put_3   : Nat → (Nat → Nat → Int32) → Int32 → Int32 → Option ((Nat → Nat → Int32))
  | 0, _, _, _ => none
  | f + 1, I, a1, a2 => (if a2 < 0 then (some I) else (if inb (I 123 27) 400 = true then (mX12_put_3 f (xu (xu I 150 (ix (I 123 27)) (xi2b (xi2b (xshr a1 a2)))) 123 27 (((xu I 150 (ix (I 123 27)) (xi2b (xi2b (xshr a1 a2)))) 123 27) + (1 : Int32))) a1 (a2 + (-8))) else none))
set_option maxHeartbeats 400000 in
set_option maxRecDepth 100000 in
theorem kX12_put_3 {E : xE} {B : Nat} {n : Nat} {K : Nat → Nat × Nat} {P : Nat → Nat → Nat} {L : Nat → Nat → Int64}   {q : (Nat → Nat → Int32)} (d : Nat) (hd : 0 ≤ d) (G : GW K P)   : ∀ (f : Nat) (I : Nat → Nat → Int32) (a1 : Int32) (a2 : Int32), mX12_put_3 f I a1 a2 = some q → X E B d 0 0 yX12_put cX12_put 3 (none : Option Jvm.ClassFile.FieldType) (none, (n, K, P, q, L)) 3 [(0, .ref 123), (1, .int a1), (2, .int a2)] [] 0 0 (n, K, P, I, L) := by
  intro f
  induction f with
  | zero => intro _ _ _ hm; exact nomatch (show (none : Option ((Nat → Nat → Int32))) = some q from hm)
  | succ f ih =>
    intro I a1 a2 hm
    rw [mX12_put_3] at hm
    refine X_iload_n 2 dX12_put_3 rfl rfl ?_
    refine X_if_lt (tgt := 36) dX12_put_4 (by decide) (fun c1 => ?_) (fun c1 => ?_)
    · replace hm := ip c1 hm
      cases hm
      exact X_vret dX12_put_36 rfl
    · replace hm := iq c1 hm
      refine X_aload_n 0 dX12_put_7 rfl rfl rfl ?_
      refine X_getPe fl_X12_92 (g_K123 G) rfl (g_P123_37 G) dX12_put_8 ?_
      refine X_aload_n 0 dX12_put_11 rfl rfl rfl ?_
      refine X_getI fl_X12_168 (g_K123 G) rfl dX12_put_12 ?_
      refine X_iload_n 1 dX12_put_15 rfl rfl ?_
      refine X_iload_n 2 dX12_put_16 rfl rfl ?_
      refine X_ishr dX12_put_17 ?_
      refine X_i2b dX12_put_18 ?_
      obtain ⟨g2, hm⟩ := og hm
      refine X_bastJ (g_K150 G) g2 rfl dX12_put_19 ?_
      refine X_aload_n 0 dX12_put_20 rfl rfl rfl ?_
      refine X_dup dX12_put_21 rfl ?_
      refine X_getI fl_X12_168 (g_K123 G) rfl dX12_put_22 ?_
      refine X_iconst (v := (1 : Int32)) dX12_put_25 (by decide) ?_
      refine X_iadd dX12_put_26 ?_
      refine X_putI fl_X12_168 (g_K123 G) rfl rfl dX12_put_27 ?_
      refine X_iinc (lv' := [(2, .int (a2 + (-8))), (0, .ref 123), (1, .int a1)]) 2 dX12_put_30 rfl rfl (by decide) rfl ?_
      refine X_goto (tgt := 3) dX12_put_33 (by decide) ?_
      exact X_lv [1, 2, 0] rfl (ih _ _ _ hm)
def mX12_put  (I : Nat → Nat → Int32) (a1 : Int32) : Option ((Nat → Nat → Int32)) := (mX12_put_3 xf I a1 (24 : Int32))
set_option maxHeartbeats 400000 in
set_option maxRecDepth 100000 in
theorem kX12_put {E : xE} {B : Nat} {n : Nat} {K : Nat → Nat × Nat} {P : Nat → Nat → Nat} {I : Nat → Nat → Int32} {L : Nat → Nat → Int64}  {a1 : Int32} {q : (Nat → Nat → Int32)} (d : Nat) (hd : 0 ≤ d) (G : GW K P)   (hm : mX12_put I a1 = some q) : MX E B d 0 0 yX12_put cX12_put 3 (none : Option Jvm.ClassFile.FieldType) [.ref 123, .int a1] (n, K, P, I, L) (none, (n, K, P, q, L)) := by
  refine MX_of (lv := [(0, .ref 123), (1, .int a1)]) (by decide +kernel) (Nat.le_of_ble_eq_true rfl) rfl ?_
  unfold mX12_put at hm
  refine X_bipush (v := (24 : Int32)) dX12_put_0 (by decide) ?_
  refine X_istore_n (lv' := [(2, .int (24 : Int32)), (0, .ref 123), (1, .int a1)]) dX12_put_2 rfl (by decide) rfl ?_
  refine X_lv [1, 2, 0] rfl (kX12_put_3 _ hd G xf _ _ _  hm)
def mX12_feed  (I : Nat → Nat → Int32) (a1 : Int32) (a2 : Int32) (a3 : Int32) (a4 : Int32) (a5 : Int32) : Option (Int32 × (Nat → Nat → Int32)) := (if ((I 123 27) + (20 : Int32)) ≤ (400 : Int32) then (Option.bind (mX12_put I a1) (fun q2 => (Option.bind (mX12_put q2 a2) (fun q4 => (Option.bind (mX12_put q4 a3) (fun q6 => (Option.bind (mX12_put q6 a4) (fun q8 => (Option.bind (mX12_put q8 a5) (fun q10 => (some ((q10 123 27), q10)))))))))))) else (some ((-1 : Int32), I)))
set_option maxHeartbeats 400000 in
set_option maxRecDepth 100000 in
theorem kX12_feed {E : xE} {B : Nat} {n : Nat} {K : Nat → Nat × Nat} {P : Nat → Nat → Nat} {I : Nat → Nat → Int32} {L : Nat → Nat → Int64}  {a1 : Int32} {a2 : Int32} {a3 : Int32} {a4 : Int32} {a5 : Int32} {q : Int32 × (Nat → Nat → Int32)} (d : Nat) (hd : 1 ≤ d) (G : GW K P)   (hm : mX12_feed I a1 a2 a3 a4 a5 = some q) : MX E B d 0 0 yX12_feed cX12_feed 6 (some .int) [.ref 123, .int a1, .int a2, .int a3, .int a4, .int a5] (n, K, P, I, L) (some (.int q.1), (n, K, P, q.2, L)) := by
  refine MX_of (lv := [(0, .ref 123), (1, .int a1), (2, .int a2), (3, .int a3), (4, .int a4), (5, .int a5)]) (by decide +kernel) (Nat.le_of_ble_eq_true rfl) rfl ?_
  obtain ⟨d, rfl⟩ : ∃ d0, d = d0 + 1 := ⟨d - 1, by omega⟩
  unfold mX12_feed at hm
  refine X_aload_n 0 dX12_feed_0 rfl rfl rfl ?_
  refine X_getI fl_X12_168 (g_K123 G) rfl dX12_feed_1 ?_
  refine X_bipush (v := (20 : Int32)) dX12_feed_4 (by decide) ?_
  refine X_iadd dX12_feed_6 ?_
  refine X_sipush (v := (400 : Int32)) dX12_feed_7 (by decide) ?_
  refine X_icmp_le (tgt := 15) dX12_feed_10 (by decide) (fun c1 => ?_) (fun c1 => ?_)
  · replace hm := ip c1 hm
    refine X_aload_n 0 dX12_feed_15 rfl rfl rfl ?_
    refine X_iload_n 1 dX12_feed_16 rfl rfl ?_
    obtain ⟨q2, e3, hm⟩ := ob hm
    refine X_cV0 (ci := 11) (kX12_put d (by omega) G e3) ml_X12_171 mi_X12_put rfl cf_11 (g_K123 G) rfl rfl (Nat.le_refl _) ⟨Nat.le_refl _, Nat.le_refl _⟩ (Nat.le_of_ble_eq_true rfl) dX12_feed_17 ?_
    refine X_aload_n 0 dX12_feed_20 rfl rfl rfl ?_
    refine X_iload_n 2 dX12_feed_21 rfl rfl ?_
    obtain ⟨q4, e5, hm⟩ := ob hm
    refine X_cV0 (ci := 11) (kX12_put d (by omega) G e5) ml_X12_171 mi_X12_put rfl cf_11 (g_K123 G) rfl rfl (Nat.le_refl _) ⟨Nat.le_refl _, Nat.le_refl _⟩ (Nat.le_of_ble_eq_true rfl) dX12_feed_22 ?_
    refine X_aload_n 0 dX12_feed_25 rfl rfl rfl ?_
    refine X_iload_n 3 dX12_feed_26 rfl rfl ?_
    obtain ⟨q6, e7, hm⟩ := ob hm
    refine X_cV0 (ci := 11) (kX12_put d (by omega) G e7) ml_X12_171 mi_X12_put rfl cf_11 (g_K123 G) rfl rfl (Nat.le_refl _) ⟨Nat.le_refl _, Nat.le_refl _⟩ (Nat.le_of_ble_eq_true rfl) dX12_feed_27 ?_
    refine X_aload_n 0 dX12_feed_30 rfl rfl rfl ?_
    refine X_iload 4 dX12_feed_31 rfl ?_
    obtain ⟨q8, e9, hm⟩ := ob hm
    refine X_cV0 (ci := 11) (kX12_put d (by omega) G e9) ml_X12_171 mi_X12_put rfl cf_11 (g_K123 G) rfl rfl (Nat.le_refl _) ⟨Nat.le_refl _, Nat.le_refl _⟩ (Nat.le_of_ble_eq_true rfl) dX12_feed_33 ?_
    refine X_aload_n 0 dX12_feed_36 rfl rfl rfl ?_
    refine X_iload 5 dX12_feed_37 rfl ?_
    obtain ⟨q10, e11, hm⟩ := ob hm
    refine X_cV0 (ci := 11) (kX12_put d (by omega) G e11) ml_X12_171 mi_X12_put rfl cf_11 (g_K123 G) rfl rfl (Nat.le_refl _) ⟨Nat.le_refl _, Nat.le_refl _⟩ (Nat.le_of_ble_eq_true rfl) dX12_feed_39 ?_
    refine X_aload_n 0 dX12_feed_42 rfl rfl rfl ?_
    refine X_getI fl_X12_168 (g_K123 G) rfl dX12_feed_43 ?_
    cases hm
    exact X_iret dX12_feed_46 rfl
  · replace hm := iq c1 hm
    refine X_iconst (v := (-1 : Int32)) dX12_feed_13 (by decide) ?_
    cases hm
    exact X_iret dX12_feed_14 rfl
def mX12_end  (I : Nat → Nat → Int32) (a1 : Int32) : Option (Int32 × (Nat → Nat → Int32)) := (if a1 < 0 then (some ((-1 : Int32), I)) else (if a1 ≤ (I 123 27) then (some (a1, (xu I 123 27 a1))) else (some ((-1 : Int32), I))))
set_option maxHeartbeats 400000 in
set_option maxRecDepth 100000 in
theorem kX12_end {E : xE} {B : Nat} {n : Nat} {K : Nat → Nat × Nat} {P : Nat → Nat → Nat} {I : Nat → Nat → Int32} {L : Nat → Nat → Int64}  {a1 : Int32} {q : Int32 × (Nat → Nat → Int32)} (d : Nat) (hd : 0 ≤ d) (G : GW K P)   (hm : mX12_end I a1 = some q) : MX E B d 0 0 yX12_end cX12_end 2 (some .int) [.ref 123, .int a1] (n, K, P, I, L) (some (.int q.1), (n, K, P, q.2, L)) := by
  refine MX_of (lv := [(0, .ref 123), (1, .int a1)]) (by decide +kernel) (Nat.le_of_ble_eq_true rfl) rfl ?_
  unfold mX12_end at hm
  refine X_iload_n 1 dX12_end_0 rfl rfl ?_
  refine X_if_lt (tgt := 12) dX12_end_1 (by decide) (fun c1 => ?_) (fun c1 => ?_)
  · replace hm := ip c1 hm
    refine X_iconst (v := (-1 : Int32)) dX12_end_12 (by decide) ?_
    cases hm
    exact X_iret dX12_end_13 rfl
  · replace hm := iq c1 hm
    refine X_iload_n 1 dX12_end_4 rfl rfl ?_
    refine X_aload_n 0 dX12_end_5 rfl rfl rfl ?_
    refine X_getI fl_X12_168 (g_K123 G) rfl dX12_end_6 ?_
    refine X_icmp_le (tgt := 14) dX12_end_9 (by decide) (fun c2 => ?_) (fun c2 => ?_)
    · replace hm := ip c2 hm
      refine X_aload_n 0 dX12_end_14 rfl rfl rfl ?_
      refine X_iload_n 1 dX12_end_15 rfl rfl ?_
      refine X_putI fl_X12_168 (g_K123 G) rfl rfl dX12_end_16 ?_
      refine X_iload_n 1 dX12_end_19 rfl rfl ?_
      cases hm
      exact X_iret dX12_end_20 rfl
    · replace hm := iq c2 hm
      refine X_iconst (v := (-1 : Int32)) dX12_end_12 (by decide) ?_
      cases hm
      exact X_iret dX12_end_13 rfl
def mX12_wordOf  (a0 : Int32) : Option (Nat) := (if a0 = (0 : Int32) then (some 4) else (if a0 = (1 : Int32) then (some 10) else (if a0 = (2 : Int32) then (some 3) else (if a0 = (3 : Int32) then (some 11) else (if a0 = (4 : Int32) then (some 12) else (if a0 = (5 : Int32) then (some 13) else (if a0 = (6 : Int32) then (some 14) else (if a0 = (7 : Int32) then (some 15) else (if a0 = (8 : Int32) then (some 16) else (if a0 = (9 : Int32) then (some 17) else (if a0 = (10 : Int32) then (some 18) else (if a0 = (11 : Int32) then (some 19) else (some 7)))))))))))))
set_option maxHeartbeats 400000 in
set_option maxRecDepth 100000 in
theorem kX12_wordOf {E : xE} {B : Nat} {n : Nat} {K : Nat → Nat × Nat} {P : Nat → Nat → Nat} {I : Nat → Nat → Int32} {L : Nat → Nat → Int64}  {a0 : Int32} {q : Nat} (d : Nat) (hd : 0 ≤ d) (G : GW K P)   (hm : mX12_wordOf a0 = some q) : MX E B d 0 0 yX12_wordOf cX12_wordOf 1 (some (.object "java/lang/String")) [.int a0] (n, K, P, I, L) (some (.retAddr q), (n, K, P, I, L)) := by
  refine MX_of (lv := [(0, .int a0)]) (by decide +kernel) (Nat.le_of_ble_eq_true rfl) rfl ?_
  unfold mX12_wordOf at hm
  refine X_iload_n 0 dX12_wordOf_0 rfl rfl ?_
  rcases Decidable.em (a0 = (0 : Int32)) with c1 | c1
  · replace hm := ip c1 hm
    refine X_swK (off := 63) (tgt := 64) c1 dX12_wordOf_1 (by decide) (by decide) (by decide) (by decide) ?_
    refine X_ldcS (i := 4) rfl (by decide) dX12_wordOf_64 ?_
    cases hm
    exact X_aret dX12_wordOf_66 rfl (Or.inl ⟨_, rfl⟩) rfl
  · replace hm := iq c1 hm
    rcases Decidable.em (a0 = (1 : Int32)) with c2 | c2
    · replace hm := ip c2 hm
      refine X_swK (off := 66) (tgt := 67) c2 dX12_wordOf_1 (by decide) (by decide) (by decide) (by decide) ?_
      refine X_ldcS (i := 10) rfl (by decide) dX12_wordOf_67 ?_
      cases hm
      exact X_aret dX12_wordOf_69 rfl (Or.inl ⟨_, rfl⟩) rfl
    · replace hm := iq c2 hm
      rcases Decidable.em (a0 = (2 : Int32)) with c3 | c3
      · replace hm := ip c3 hm
        refine X_swK (off := 69) (tgt := 70) c3 dX12_wordOf_1 (by decide) (by decide) (by decide) (by decide) ?_
        refine X_ldcS (i := 3) rfl (by decide) dX12_wordOf_70 ?_
        cases hm
        exact X_aret dX12_wordOf_72 rfl (Or.inl ⟨_, rfl⟩) rfl
      · replace hm := iq c3 hm
        rcases Decidable.em (a0 = (3 : Int32)) with c4 | c4
        · replace hm := ip c4 hm
          refine X_swK (off := 72) (tgt := 73) c4 dX12_wordOf_1 (by decide) (by decide) (by decide) (by decide) ?_
          refine X_ldcS (i := 11) rfl (by decide) dX12_wordOf_73 ?_
          cases hm
          exact X_aret dX12_wordOf_75 rfl (Or.inl ⟨_, rfl⟩) rfl
        · replace hm := iq c4 hm
          rcases Decidable.em (a0 = (4 : Int32)) with c5 | c5
          · replace hm := ip c5 hm
            refine X_swK (off := 75) (tgt := 76) c5 dX12_wordOf_1 (by decide) (by decide) (by decide) (by decide) ?_
            refine X_ldcS (i := 12) rfl (by decide) dX12_wordOf_76 ?_
            cases hm
            exact X_aret dX12_wordOf_78 rfl (Or.inl ⟨_, rfl⟩) rfl
          · replace hm := iq c5 hm
            rcases Decidable.em (a0 = (5 : Int32)) with c6 | c6
            · replace hm := ip c6 hm
              refine X_swK (off := 78) (tgt := 79) c6 dX12_wordOf_1 (by decide) (by decide) (by decide) (by decide) ?_
              refine X_ldcS (i := 13) rfl (by decide) dX12_wordOf_79 ?_
              cases hm
              exact X_aret dX12_wordOf_81 rfl (Or.inl ⟨_, rfl⟩) rfl
            · replace hm := iq c6 hm
              rcases Decidable.em (a0 = (6 : Int32)) with c7 | c7
              · replace hm := ip c7 hm
                refine X_swK (off := 81) (tgt := 82) c7 dX12_wordOf_1 (by decide) (by decide) (by decide) (by decide) ?_
                refine X_ldcS (i := 14) rfl (by decide) dX12_wordOf_82 ?_
                cases hm
                exact X_aret dX12_wordOf_84 rfl (Or.inl ⟨_, rfl⟩) rfl
              · replace hm := iq c7 hm
                rcases Decidable.em (a0 = (7 : Int32)) with c8 | c8
                · replace hm := ip c8 hm
                  refine X_swK (off := 84) (tgt := 85) c8 dX12_wordOf_1 (by decide) (by decide) (by decide) (by decide) ?_
                  refine X_ldcS (i := 15) rfl (by decide) dX12_wordOf_85 ?_
                  cases hm
                  exact X_aret dX12_wordOf_87 rfl (Or.inl ⟨_, rfl⟩) rfl
                · replace hm := iq c8 hm
                  rcases Decidable.em (a0 = (8 : Int32)) with c9 | c9
                  · replace hm := ip c9 hm
                    refine X_swK (off := 87) (tgt := 88) c9 dX12_wordOf_1 (by decide) (by decide) (by decide) (by decide) ?_
                    refine X_ldcS (i := 16) rfl (by decide) dX12_wordOf_88 ?_
                    cases hm
                    exact X_aret dX12_wordOf_90 rfl (Or.inl ⟨_, rfl⟩) rfl
                  · replace hm := iq c9 hm
                    rcases Decidable.em (a0 = (9 : Int32)) with c10 | c10
                    · replace hm := ip c10 hm
                      refine X_swK (off := 90) (tgt := 91) c10 dX12_wordOf_1 (by decide) (by decide) (by decide) (by decide) ?_
                      refine X_ldcS (i := 17) rfl (by decide) dX12_wordOf_91 ?_
                      cases hm
                      exact X_aret dX12_wordOf_93 rfl (Or.inl ⟨_, rfl⟩) rfl
                    · replace hm := iq c10 hm
                      rcases Decidable.em (a0 = (10 : Int32)) with c11 | c11
                      · replace hm := ip c11 hm
                        refine X_swK (off := 93) (tgt := 94) c11 dX12_wordOf_1 (by decide) (by decide) (by decide) (by decide) ?_
                        refine X_ldcS (i := 18) rfl (by decide) dX12_wordOf_94 ?_
                        cases hm
                        exact X_aret dX12_wordOf_96 rfl (Or.inl ⟨_, rfl⟩) rfl
                      · replace hm := iq c11 hm
                        rcases Decidable.em (a0 = (11 : Int32)) with c12 | c12
                        · replace hm := ip c12 hm
                          refine X_swK (off := 96) (tgt := 97) c12 dX12_wordOf_1 (by decide) (by decide) (by decide) (by decide) ?_
                          refine X_ldcS (i := 19) rfl (by decide) dX12_wordOf_97 ?_
                          cases hm
                          exact X_aret dX12_wordOf_99 rfl (Or.inl ⟨_, rfl⟩) rfl
                        · replace hm := iq c12 hm
                          refine X_tableOut (tgt := 100) dX12_wordOf_1 (sw_out 12 (by decide) (fun i hi => by
                            have hi2 : i = 0 ∨ i = 1 ∨ i = 2 ∨ i = 3 ∨ i = 4 ∨ i = 5 ∨ i = 6 ∨ i = 7 ∨ i = 8 ∨ i = 9 ∨ i = 10 ∨ i = 11 := by omega
                            rcases hi2 with rfl | rfl | rfl | rfl | rfl | rfl | rfl | rfl | rfl | rfl | rfl | rfl
                            · exact c1
                            · exact c2
                            · exact c3
                            · exact c4
                            · exact c5
                            · exact c6
                            · exact c7
                            · exact c8
                            · exact c9
                            · exact c10
                            · exact c11
                            · exact c12)) (by decide) ?_
                          refine X_ldcS (i := 7) rfl (by decide) dX12_wordOf_100 ?_
                          cases hm
                          exact X_aret dX12_wordOf_102 rfl (Or.inl ⟨_, rfl⟩) rfl
def mX12_fails  (I : Nat → Nat → Int32) (a1 : Int32) (a2 : Int32) : Option ((Nat → Nat → Int32)) := (if (I 123 29) = 0 then (some (xu I 123 29 (((1 : Int32) + ((8 : Int32) * a2)) + a1))) else (some (xu I 123 29 (I 123 29))))
set_option maxHeartbeats 400000 in
set_option maxRecDepth 100000 in
theorem kX12_fails {E : xE} {B : Nat} {n : Nat} {K : Nat → Nat × Nat} {P : Nat → Nat → Nat} {I : Nat → Nat → Int32} {L : Nat → Nat → Int64}  {a1 : Int32} {a2 : Int32} {q : (Nat → Nat → Int32)} (d : Nat) (hd : 0 ≤ d) (G : GW K P)   (hm : mX12_fails I a1 a2 = some q) : MX E B d 0 0 yX12_fails cX12_fails 3 (none : Option Jvm.ClassFile.FieldType) [.ref 123, .int a1, .int a2] (n, K, P, I, L) (none, (n, K, P, q, L)) := by
  refine MX_of (lv := [(0, .ref 123), (1, .int a1), (2, .int a2)]) (by decide +kernel) (Nat.le_of_ble_eq_true rfl) rfl ?_
  unfold mX12_fails at hm
  refine X_aload_n 0 dX12_fails_0 rfl rfl rfl ?_
  refine X_aload_n 0 dX12_fails_1 rfl rfl rfl ?_
  refine X_getI fl_X12_199 (g_K123 G) rfl dX12_fails_2 ?_
  refine X_if_ne (tgt := 19) dX12_fails_5 (by decide) (fun c1 => ?_) (fun c1 => ?_)
  · replace hm := iq c1 hm
    refine X_aload_n 0 dX12_fails_19 rfl rfl rfl ?_
    refine X_getI fl_X12_199 (g_K123 G) rfl dX12_fails_20 ?_
    refine X_putI fl_X12_199 (g_K123 G) rfl rfl dX12_fails_23 ?_
    cases hm
    exact X_vret dX12_fails_26 rfl
  · replace hm := ip c1 hm
    refine X_iconst (v := (1 : Int32)) dX12_fails_8 (by decide) ?_
    refine X_bipush (v := (8 : Int32)) dX12_fails_9 (by decide) ?_
    refine X_iload_n 2 dX12_fails_11 rfl rfl ?_
    refine X_imul dX12_fails_12 ?_
    refine X_iadd dX12_fails_13 ?_
    refine X_iload_n 1 dX12_fails_14 rfl rfl ?_
    refine X_iadd dX12_fails_15 ?_
    refine X_goto (tgt := 23) dX12_fails_16 (by decide) ?_
    refine X_putI fl_X12_199 (g_K123 G) rfl rfl dX12_fails_23 ?_
    cases hm
    exact X_vret dX12_fails_26 rfl
def mX12_sign (I : Nat → Nat → Int32)  : Option (Int32) := (if (I 123 27) ≤ (I 123 28) then (some (-1 : Int32)) else (if inb (I 123 28) 400 = true then (some ((I 150 (ix (I 123 28))) &&& (255 : Int32))) else none))
set_option maxHeartbeats 400000 in
set_option maxRecDepth 100000 in
theorem kX12_sign {E : xE} {B : Nat} {n : Nat} {K : Nat → Nat × Nat} {P : Nat → Nat → Nat} {I : Nat → Nat → Int32} {L : Nat → Nat → Int64}   {q : Int32} (d : Nat) (hd : 0 ≤ d) (G : GW K P)   (hm : mX12_sign I = some q) : MX E B d 0 0 yX12_sign cX12_sign 1 (some .int) [.ref 123] (n, K, P, I, L) (some (.int q), (n, K, P, I, L)) := by
  refine MX_of (lv := [(0, .ref 123)]) (by decide +kernel) (Nat.le_of_ble_eq_true rfl) rfl ?_
  unfold mX12_sign at hm
  refine X_aload_n 0 dX12_sign_0 rfl rfl rfl ?_
  refine X_getI fl_X12_202 (g_K123 G) rfl dX12_sign_1 ?_
  refine X_aload_n 0 dX12_sign_4 rfl rfl rfl ?_
  refine X_getI fl_X12_168 (g_K123 G) rfl dX12_sign_5 ?_
  refine X_icmp_ge (tgt := 27) dX12_sign_8 (by decide) (fun c1 => ?_) (fun c1 => ?_)
  · replace hm := ip c1 hm
    refine X_iconst (v := (-1 : Int32)) dX12_sign_27 (by decide) ?_
    cases hm
    exact X_iret dX12_sign_28 rfl
  · replace hm := iq c1 hm
    refine X_aload_n 0 dX12_sign_11 rfl rfl rfl ?_
    refine X_getPe fl_X12_92 (g_K123 G) rfl (g_P123_37 G) dX12_sign_12 ?_
    refine X_aload_n 0 dX12_sign_15 rfl rfl rfl ?_
    refine X_getI fl_X12_202 (g_K123 G) rfl dX12_sign_16 ?_
    obtain ⟨g2, hm⟩ := og hm
    refine X_baldJ (g_K150 G) g2 rfl dX12_sign_19 ?_
    refine X_sipush (v := (255 : Int32)) dX12_sign_20 (by decide) ?_
    refine X_iand dX12_sign_23 ?_
    refine X_goto (tgt := 28) dX12_sign_24 (by decide) ?_
    cases hm
    exact X_iret dX12_sign_28 rfl
def mX12_blanks_0   : Nat → (Nat → Nat → Int32) → Option ((Nat → Nat → Int32))
  | 0, _ => none
  | f + 1, I => (Option.bind (mX12_sign I) (fun q1 => (if q1 = (32 : Int32) then (mX12_blanks_0 f (xu I 123 28 ((I 123 28) + (1 : Int32)))) else (some I))))
set_option maxHeartbeats 400000 in
set_option maxRecDepth 100000 in
theorem kX12_blanks_0 {E : xE} {B : Nat} {n : Nat} {K : Nat → Nat × Nat} {P : Nat → Nat → Nat} {L : Nat → Nat → Int64}   {q : (Nat → Nat → Int32)} (d : Nat) (hd : 1 ≤ d) (G : GW K P)   : ∀ (f : Nat) (I : Nat → Nat → Int32), mX12_blanks_0 f I = some q → X E B d 0 0 yX12_blanks cX12_blanks 1 (none : Option Jvm.ClassFile.FieldType) (none, (n, K, P, q, L)) 0 [(0, .ref 123)] [] 0 0 (n, K, P, I, L) := by
  obtain ⟨d, rfl⟩ : ∃ d0, d = d0 + 1 := ⟨d - 1, by omega⟩
  intro f
  induction f with
  | zero => intro _ hm; exact nomatch (show (none : Option ((Nat → Nat → Int32))) = some q from hm)
  | succ f ih =>
    intro I hm
    rw [mX12_blanks_0] at hm
    refine X_aload_n 0 dX12_blanks_0 rfl rfl rfl ?_
    obtain ⟨q1, e2, hm⟩ := ob hm
    refine X_cV1 (ci := 11) (kX12_sign d (by omega) G e2) ml_X12_205 mi_X12_sign rfl cf_11 (g_K123 G) rfl rfl (Nat.le_refl _) ⟨Nat.le_refl _, Nat.le_refl _⟩ (Nat.le_of_ble_eq_true rfl) dX12_blanks_1 ?_
    refine X_bipush (v := (32 : Int32)) dX12_blanks_4 (by decide) ?_
    refine X_icmp_ne (tgt := 22) dX12_blanks_6 (by decide) (fun c3 => ?_) (fun c3 => ?_)
    · replace hm := iq c3 hm
      cases hm
      exact X_vret dX12_blanks_22 rfl
    · replace hm := ip c3 hm
      refine X_aload_n 0 dX12_blanks_9 rfl rfl rfl ?_
      refine X_dup dX12_blanks_10 rfl ?_
      refine X_getI fl_X12_202 (g_K123 G) rfl dX12_blanks_11 ?_
      refine X_iconst (v := (1 : Int32)) dX12_blanks_14 (by decide) ?_
      refine X_iadd dX12_blanks_15 ?_
      refine X_putI fl_X12_202 (g_K123 G) rfl rfl dX12_blanks_16 ?_
      refine X_goto (tgt := 0) dX12_blanks_19 (by decide) ?_
      exact ih _ hm
def mX12_blanks  (I : Nat → Nat → Int32) : Option ((Nat → Nat → Int32)) := (mX12_blanks_0 xf I)
set_option maxHeartbeats 400000 in
set_option maxRecDepth 100000 in
theorem kX12_blanks {E : xE} {B : Nat} {n : Nat} {K : Nat → Nat × Nat} {P : Nat → Nat → Nat} {I : Nat → Nat → Int32} {L : Nat → Nat → Int64}   {q : (Nat → Nat → Int32)} (d : Nat) (hd : 1 ≤ d) (G : GW K P)   (hm : mX12_blanks I = some q) : MX E B d 0 0 yX12_blanks cX12_blanks 1 (none : Option Jvm.ClassFile.FieldType) [.ref 123] (n, K, P, I, L) (none, (n, K, P, q, L)) := by
  refine MX_of (lv := [(0, .ref 123)]) (by decide +kernel) (Nat.le_of_ble_eq_true rfl) rfl ?_
  obtain ⟨d, rfl⟩ : ∃ d0, d = d0 + 1 := ⟨d - 1, by omega⟩
  unfold mX12_blanks at hm
  refine kX12_blanks_0 _ hd G xf _  hm
def mX12_isDigit (I : Nat → Nat → Int32)  : Option (Int32) := (Option.bind (mX12_sign I) (fun q1 => (Option.bind (mX12_in q1.toInt64 (48 : Int64) (57 : Int64)) (fun q3 => (if q3 = 0 ∨ q3 = 1 then (some q3) else none)))))
set_option maxHeartbeats 400000 in
set_option maxRecDepth 100000 in
theorem kX12_isDigit {E : xE} {B : Nat} {n : Nat} {K : Nat → Nat × Nat} {P : Nat → Nat → Nat} {I : Nat → Nat → Int32} {L : Nat → Nat → Int64}   {q : Int32} (d : Nat) (hd : 1 ≤ d) (G : GW K P)   (hm : mX12_isDigit I = some q) : MX E B d 0 0 yX12_isDigit cX12_isDigit 1 (some .boolean) [.ref 123] (n, K, P, I, L) (some (.int q), (n, K, P, I, L)) := by
  refine MX_of (lv := [(0, .ref 123)]) (by decide +kernel) (Nat.le_of_ble_eq_true rfl) rfl ?_
  obtain ⟨d, rfl⟩ : ∃ d0, d = d0 + 1 := ⟨d - 1, by omega⟩
  unfold mX12_isDigit at hm
  refine X_aload_n 0 dX12_isDigit_0 rfl rfl rfl ?_
  obtain ⟨q1, e2, hm⟩ := ob hm
  refine X_cV1 (ci := 11) (kX12_sign d (by omega) G e2) ml_X12_205 mi_X12_sign rfl cf_11 (g_K123 G) rfl rfl (Nat.le_refl _) ⟨Nat.le_refl _, Nat.le_refl _⟩ (Nat.le_of_ble_eq_true rfl) dX12_isDigit_1 ?_
  refine X_i2l dX12_isDigit_4 ?_
  refine X_ldc2 lc_X12_209 dX12_isDigit_5 ?_
  refine X_ldc2 lc_X12_211 dX12_isDigit_8 ?_
  obtain ⟨q3, e4, hm⟩ := ob hm
  refine X_cS1 (kX12_in d (by omega) G e4) ml_X12_164 ms_X12_in rfl rfl (Nat.le_refl _) ⟨Nat.le_refl _, Nat.le_refl _⟩ (Nat.le_of_ble_eq_true rfl) dX12_isDigit_11 ?_
  obtain ⟨g5, hm⟩ := og hm
  cases hm
  exact X_zret dX12_isDigit_14 rfl (x_nz g5)
def mX12_entry  (I : Nat → Nat → Int32) (a1 : Int32) (a2 : Int32) : Option ((Nat → Nat → Int32)) := (if (I 123 29) = 0 then (if inb (((300 : Int32) * (I 123 30)) + (I 123 32)) 1800 = true then (if inb (((300 : Int32) * ((xu I 151 (ix (((300 : Int32) * (I 123 30)) + (I 123 32))) a1) 123 30)) + ((xu I 151 (ix (((300 : Int32) * (I 123 30)) + (I 123 32))) a1) 123 32)) 1800 = true then (some (xu (xu (xu I 151 (ix (((300 : Int32) * (I 123 30)) + (I 123 32))) a1) 152 (ix (((300 : Int32) * ((xu I 151 (ix (((300 : Int32) * (I 123 30)) + (I 123 32))) a1) 123 30)) + ((xu I 151 (ix (((300 : Int32) * (I 123 30)) + (I 123 32))) a1) 123 32))) a2) 123 32 (((xu (xu I 151 (ix (((300 : Int32) * (I 123 30)) + (I 123 32))) a1) 152 (ix (((300 : Int32) * ((xu I 151 (ix (((300 : Int32) * (I 123 30)) + (I 123 32))) a1) 123 30)) + ((xu I 151 (ix (((300 : Int32) * (I 123 30)) + (I 123 32))) a1) 123 32))) a2) 123 32) + (1 : Int32)))) else none) else none) else (some I))
set_option maxHeartbeats 400000 in
set_option maxRecDepth 100000 in
theorem kX12_entry {E : xE} {B : Nat} {n : Nat} {K : Nat → Nat × Nat} {P : Nat → Nat → Nat} {I : Nat → Nat → Int32} {L : Nat → Nat → Int64}  {a1 : Int32} {a2 : Int32} {q : (Nat → Nat → Int32)} (d : Nat) (hd : 0 ≤ d) (G : GW K P)   (hm : mX12_entry I a1 a2 = some q) : MX E B d 0 0 yX12_entry cX12_entry 3 (none : Option Jvm.ClassFile.FieldType) [.ref 123, .int a1, .int a2] (n, K, P, I, L) (none, (n, K, P, q, L)) := by
  refine MX_of (lv := [(0, .ref 123), (1, .int a1), (2, .int a2)]) (by decide +kernel) (Nat.le_of_ble_eq_true rfl) rfl ?_
  unfold mX12_entry at hm
  refine X_aload_n 0 dX12_entry_0 rfl rfl rfl ?_
  refine X_getI fl_X12_199 (g_K123 G) rfl dX12_entry_1 ?_
  refine X_if_ne (tgt := 55) dX12_entry_4 (by decide) (fun c1 => ?_) (fun c1 => ?_)
  · replace hm := iq c1 hm
    cases hm
    exact X_vret dX12_entry_55 rfl
  · replace hm := ip c1 hm
    refine X_aload_n 0 dX12_entry_7 rfl rfl rfl ?_
    refine X_getPe fl_X12_96 (g_K123 G) rfl (g_P123_38 G) dX12_entry_8 ?_
    refine X_sipush (v := (300 : Int32)) dX12_entry_11 (by decide) ?_
    refine X_aload_n 0 dX12_entry_14 rfl rfl rfl ?_
    refine X_getI fl_X12_229 (g_K123 G) rfl dX12_entry_15 ?_
    refine X_imul dX12_entry_18 ?_
    refine X_aload_n 0 dX12_entry_19 rfl rfl rfl ?_
    refine X_getI fl_X12_232 (g_K123 G) rfl dX12_entry_20 ?_
    refine X_iadd dX12_entry_23 ?_
    refine X_iload_n 1 dX12_entry_24 rfl rfl ?_
    obtain ⟨g2, hm⟩ := og hm
    refine X_iastJ (g_K151 G) g2 rfl dX12_entry_25 ?_
    refine X_aload_n 0 dX12_entry_26 rfl rfl rfl ?_
    refine X_getPe fl_X12_99 (g_K123 G) rfl (g_P123_39 G) dX12_entry_27 ?_
    refine X_sipush (v := (300 : Int32)) dX12_entry_30 (by decide) ?_
    refine X_aload_n 0 dX12_entry_33 rfl rfl rfl ?_
    refine X_getI fl_X12_229 (g_K123 G) rfl dX12_entry_34 ?_
    refine X_imul dX12_entry_37 ?_
    refine X_aload_n 0 dX12_entry_38 rfl rfl rfl ?_
    refine X_getI fl_X12_232 (g_K123 G) rfl dX12_entry_39 ?_
    refine X_iadd dX12_entry_42 ?_
    refine X_iload_n 2 dX12_entry_43 rfl rfl ?_
    obtain ⟨g3, hm⟩ := og hm
    refine X_iastJ (g_K152 G) g3 rfl dX12_entry_44 ?_
    refine X_aload_n 0 dX12_entry_45 rfl rfl rfl ?_
    refine X_dup dX12_entry_46 rfl ?_
    refine X_getI fl_X12_232 (g_K123 G) rfl dX12_entry_47 ?_
    refine X_iconst (v := (1 : Int32)) dX12_entry_50 (by decide) ?_
    refine X_iadd dX12_entry_51 ?_
    refine X_putI fl_X12_232 (g_K123 G) rfl rfl dX12_entry_52 ?_
    cases hm
    exact X_vret dX12_entry_55 rfl
def mX12_isCounted  (I : Nat → Nat → Int32) (a1 : Int32) : Option ((Nat → Nat → Int32)) := (if (I 123 34) = (60 : Int32) then (Option.bind (mX12_fails I (3 : Int32) a1) (fun q2 => (some (xu q2 123 34 ((q2 123 34) + (1 : Int32)))))) else (some (xu I 123 34 ((I 123 34) + (1 : Int32)))))
set_option maxHeartbeats 400000 in
set_option maxRecDepth 100000 in
theorem kX12_isCounted {E : xE} {B : Nat} {n : Nat} {K : Nat → Nat × Nat} {P : Nat → Nat → Nat} {I : Nat → Nat → Int32} {L : Nat → Nat → Int64}  {a1 : Int32} {q : (Nat → Nat → Int32)} (d : Nat) (hd : 1 ≤ d) (G : GW K P)   (hm : mX12_isCounted I a1 = some q) : MX E B d 0 0 yX12_isCounted cX12_isCounted 2 (none : Option Jvm.ClassFile.FieldType) [.ref 123, .int a1] (n, K, P, I, L) (none, (n, K, P, q, L)) := by
  refine MX_of (lv := [(0, .ref 123), (1, .int a1)]) (by decide +kernel) (Nat.le_of_ble_eq_true rfl) rfl ?_
  obtain ⟨d, rfl⟩ : ∃ d0, d = d0 + 1 := ⟨d - 1, by omega⟩
  unfold mX12_isCounted at hm
  refine X_aload_n 0 dX12_isCounted_0 rfl rfl rfl ?_
  refine X_getI fl_X12_235 (g_K123 G) rfl dX12_isCounted_1 ?_
  refine X_bipush (v := (60 : Int32)) dX12_isCounted_4 (by decide) ?_
  refine X_icmp_ne (tgt := 15) dX12_isCounted_6 (by decide) (fun c1 => ?_) (fun c1 => ?_)
  · replace hm := iq c1 hm
    refine X_aload_n 0 dX12_isCounted_15 rfl rfl rfl ?_
    refine X_dup dX12_isCounted_16 rfl ?_
    refine X_getI fl_X12_235 (g_K123 G) rfl dX12_isCounted_17 ?_
    refine X_iconst (v := (1 : Int32)) dX12_isCounted_20 (by decide) ?_
    refine X_iadd dX12_isCounted_21 ?_
    refine X_putI fl_X12_235 (g_K123 G) rfl rfl dX12_isCounted_22 ?_
    cases hm
    exact X_vret dX12_isCounted_25 rfl
  · replace hm := ip c1 hm
    refine X_aload_n 0 dX12_isCounted_9 rfl rfl rfl ?_
    refine X_iconst (v := (3 : Int32)) dX12_isCounted_10 (by decide) ?_
    refine X_iload_n 1 dX12_isCounted_11 rfl rfl ?_
    obtain ⟨q2, e3, hm⟩ := ob hm
    refine X_cV0 (ci := 11) (kX12_fails d (by omega) G e3) ml_X12_238 mi_X12_fails rfl cf_11 (g_K123 G) rfl rfl (Nat.le_refl _) ⟨Nat.le_refl _, Nat.le_refl _⟩ (Nat.le_of_ble_eq_true rfl) dX12_isCounted_12 ?_
    refine X_aload_n 0 dX12_isCounted_15 rfl rfl rfl ?_
    refine X_dup dX12_isCounted_16 rfl ?_
    refine X_getI fl_X12_235 (g_K123 G) rfl dX12_isCounted_17 ?_
    refine X_iconst (v := (1 : Int32)) dX12_isCounted_20 (by decide) ?_
    refine X_iadd dX12_isCounted_21 ?_
    refine X_putI fl_X12_235 (g_K123 G) rfl rfl dX12_isCounted_22 ?_
    cases hm
    exact X_vret dX12_isCounted_25 rfl
def mX12_digits_58 (b25 : (Nat → Nat → Int32) → Int32 → Int32 → Int32 → Option (Int32 × (Nat → Nat → Int32))) (e72 : (Nat → Nat → Int32) → Int32 → Int32 → Int32 → Option (Int32 × (Nat → Nat → Int32))) (I : Nat → Nat → Int32) (a1 : Int32) (a2 : Int32) (t0 : Int32) : Option (Int32 × (Nat → Nat → Int32)) := (b25 (xu I 123 28 ((I 123 28) + (1 : Int32))) a1 a2 t0)
set_option maxHeartbeats 400000 in
set_option maxRecDepth 100000 in
theorem kX12_digits_58 {E : xE} {B : Nat} {n : Nat} {K : Nat → Nat × Nat} {P : Nat → Nat → Nat} {I : Nat → Nat → Int32} {L : Nat → Nat → Int64}  {b25 : (Nat → Nat → Int32) → Int32 → Int32 → Int32 → Option (Int32 × (Nat → Nat → Int32))} {e72 : (Nat → Nat → Int32) → Int32 → Int32 → Int32 → Option (Int32 × (Nat → Nat → Int32))} {a1 : Int32} {a2 : Int32} {t0 : Int32} {q : Int32 × (Nat → Nat → Int32)} (d : Nat) (hd : 2 ≤ d) (G : GW K P)  (hb25 : ∀ (I : Nat → Nat → Int32) (a1 : Int32) (a2 : Int32) (a3 : Int32), b25 I a1 a2 a3 = some q → X E B d 0 0 yX12_digits cX12_digits 4 (some .int) (some (.int q.1), (n, K, P, q.2, L)) 25 [(0, .ref 123), (1, .int a1), (2, .int a2), (3, .int a3)] [] 0 0 (n, K, P, I, L)) (he72 : ∀ (I : Nat → Nat → Int32) (a1 : Int32) (a2 : Int32) (a3 : Int32), e72 I a1 a2 a3 = some q → X E B d 0 0 yX12_digits cX12_digits 4 (some .int) (some (.int q.1), (n, K, P, q.2, L)) 72 [(0, .ref 123), (1, .int a1), (2, .int a2), (3, .int a3)] [] 0 0 (n, K, P, I, L))  (hm : mX12_digits_58 b25 e72 I a1 a2 t0 = some q) : X E B d 0 0 yX12_digits cX12_digits 4 (some .int) (some (.int q.1), (n, K, P, q.2, L)) 58 [(0, .ref 123), (1, .int a1), (2, .int a2)] [.int t0] 0 0 (n, K, P, I, L) := by
  obtain ⟨d, rfl⟩ : ∃ d0, d = d0 + 1 := ⟨d - 1, by omega⟩
  unfold mX12_digits_58 at hm
  refine X_istore_n (lv' := [(3, .int t0), (0, .ref 123), (1, .int a1), (2, .int a2)]) dX12_digits_58 rfl (by decide) rfl ?_
  refine X_aload_n 1 dX12_digits_59 rfl rfl rfl ?_
  refine X_dup dX12_digits_60 rfl ?_
  refine X_getI fl_X12_202 (g_K123 G) rfl dX12_digits_61 ?_
  refine X_iconst (v := (1 : Int32)) dX12_digits_64 (by decide) ?_
  refine X_iadd dX12_digits_65 ?_
  refine X_putI fl_X12_202 (g_K123 G) rfl rfl dX12_digits_66 ?_
  refine X_goto (tgt := 25) dX12_digits_69 (by decide) ?_
  exact X_lv [1, 2, 3, 0] rfl (hb25 _ _ _ _ hm)
def mX12_digits_25  (e72 : (Nat → Nat → Int32) → Int32 → Int32 → Int32 → Option (Int32 × (Nat → Nat → Int32))) : Nat → (Nat → Nat → Int32) → Int32 → Int32 → Int32 → Option (Int32 × (Nat → Nat → Int32))
  | 0, _, _, _, _ => none
  | f + 1, I, a1, a2, a3 => (Option.bind (mX12_isDigit I) (fun q4 => (if q4 = 0 then (e72 I a1 a2 a3) else (if (5 : Int32) ≤ ((I 123 28) - a2) then (mX12_digits_58 (fun (I : Nat → Nat → Int32) (a1 : Int32) (a2 : Int32) (a3 : Int32) => mX12_digits_25 e72 f I a1 a2 a3) e72 I a1 a2 a3) else (Option.bind (mX12_sign I) (fun q8 => (mX12_digits_58 (fun (I : Nat → Nat → Int32) (a1 : Int32) (a2 : Int32) (a3 : Int32) => mX12_digits_25 e72 f I a1 a2 a3) e72 I a1 a2 ((((10 : Int32) * a3) + q8) - (48 : Int32)))))))))
set_option maxHeartbeats 400000 in
set_option maxRecDepth 100000 in
theorem kX12_digits_25 {E : xE} {B : Nat} {n : Nat} {K : Nat → Nat × Nat} {P : Nat → Nat → Nat} {L : Nat → Nat → Int64}  {e72 : (Nat → Nat → Int32) → Int32 → Int32 → Int32 → Option (Int32 × (Nat → Nat → Int32))} {q : Int32 × (Nat → Nat → Int32)} (d : Nat) (hd : 2 ≤ d) (G : GW K P)  (he72 : ∀ (I : Nat → Nat → Int32) (a1 : Int32) (a2 : Int32) (a3 : Int32), e72 I a1 a2 a3 = some q → X E B d 0 0 yX12_digits cX12_digits 4 (some .int) (some (.int q.1), (n, K, P, q.2, L)) 72 [(0, .ref 123), (1, .int a1), (2, .int a2), (3, .int a3)] [] 0 0 (n, K, P, I, L)) : ∀ (f : Nat) (I : Nat → Nat → Int32) (a1 : Int32) (a2 : Int32) (a3 : Int32), mX12_digits_25 e72 f I a1 a2 a3 = some q → X E B d 0 0 yX12_digits cX12_digits 4 (some .int) (some (.int q.1), (n, K, P, q.2, L)) 25 [(0, .ref 123), (1, .int a1), (2, .int a2), (3, .int a3)] [] 0 0 (n, K, P, I, L) := by
  obtain ⟨d, rfl⟩ : ∃ d0, d = d0 + 1 := ⟨d - 1, by omega⟩
  intro f
  induction f with
  | zero => intro _ _ _ _ hm; exact nomatch (show (none : Option (Int32 × (Nat → Nat → Int32))) = some q from hm)
  | succ f ih =>
    intro I a1 a2 a3 hm
    rw [mX12_digits_25] at hm
    refine X_aload_n 0 dX12_digits_25 rfl rfl rfl ?_
    obtain ⟨q4, e5, hm⟩ := ob hm
    refine X_cV1 (ci := 11) (kX12_isDigit d (by omega) G e5) ml_X12_242 mi_X12_isDigit rfl cf_11 (g_K123 G) rfl rfl (Nat.le_refl _) ⟨Nat.le_refl _, Nat.le_refl _⟩ (Nat.le_of_ble_eq_true rfl) dX12_digits_26 ?_
    refine X_if_eq (tgt := 72) dX12_digits_29 (by decide) (fun c6 => ?_) (fun c6 => ?_)
    · replace hm := ip c6 hm
      exact he72 _ _ _ _ hm
    · replace hm := iq c6 hm
      refine X_aload_n 0 dX12_digits_32 rfl rfl rfl ?_
      refine X_getI fl_X12_202 (g_K123 G) rfl dX12_digits_33 ?_
      refine X_iload_n 2 dX12_digits_36 rfl rfl ?_
      refine X_isub dX12_digits_37 ?_
      refine X_iconst (v := (5 : Int32)) dX12_digits_38 (by decide) ?_
      refine X_icmp_ge (tgt := 57) dX12_digits_39 (by decide) (fun c7 => ?_) (fun c7 => ?_)
      · replace hm := ip c7 hm
        refine X_iload_n 3 dX12_digits_57 rfl rfl ?_
        exact X_lv [0, 1, 2] rfl (kX12_digits_58 _ hd G ih he72 hm)
      · replace hm := iq c7 hm
        refine X_bipush (v := (10 : Int32)) dX12_digits_42 (by decide) ?_
        refine X_iload_n 3 dX12_digits_44 rfl rfl ?_
        refine X_imul dX12_digits_45 ?_
        refine X_aload_n 0 dX12_digits_46 rfl rfl rfl ?_
        obtain ⟨q8, e9, hm⟩ := ob hm
        refine X_cV1 (ci := 11) (kX12_sign d (by omega) G e9) ml_X12_205 mi_X12_sign rfl cf_11 (g_K123 G) rfl rfl (Nat.le_refl _) ⟨Nat.le_refl _, Nat.le_refl _⟩ (Nat.le_of_ble_eq_true rfl) dX12_digits_47 ?_
        refine X_iadd dX12_digits_50 ?_
        refine X_bipush (v := (48 : Int32)) dX12_digits_51 (by decide) ?_
        refine X_isub dX12_digits_53 ?_
        refine X_goto (tgt := 58) dX12_digits_54 (by decide) ?_
        exact X_lv [0, 1, 2] rfl (kX12_digits_58 _ hd G ih he72 hm)
def mX12_digits_87  (I : Nat → Nat → Int32) (a2 : Int32) (a3 : Int32) : Option (Int32 × (Nat → Nat → Int32)) := (Option.bind (mX12_fails I (1 : Int32) a2) (fun q12 => (some (a3, q12))))
set_option maxHeartbeats 400000 in
set_option maxRecDepth 100000 in
theorem kX12_digits_87 {E : xE} {B : Nat} {n : Nat} {K : Nat → Nat × Nat} {P : Nat → Nat → Nat} {I : Nat → Nat → Int32} {L : Nat → Nat → Int64}   {a2 : Int32} {a3 : Int32} {q : Int32 × (Nat → Nat → Int32)} (d : Nat) (hd : 2 ≤ d) (G : GW K P)    (hm : mX12_digits_87 I a2 a3 = some q) : X E B d 0 0 yX12_digits cX12_digits 4 (some .int) (some (.int q.1), (n, K, P, q.2, L)) 87 [(0, .ref 123), (2, .int a2), (3, .int a3)] [] 0 0 (n, K, P, I, L) := by
  obtain ⟨d, rfl⟩ : ∃ d0, d = d0 + 1 := ⟨d - 1, by omega⟩
  unfold mX12_digits_87 at hm
  refine X_aload_n 0 dX12_digits_87 rfl rfl rfl ?_
  refine X_iconst (v := (1 : Int32)) dX12_digits_88 (by decide) ?_
  refine X_iload_n 1 dX12_digits_89 rfl rfl ?_
  obtain ⟨q12, e13, hm⟩ := ob hm
  refine X_cV0 (ci := 11) (kX12_fails d (by omega) G e13) ml_X12_238 mi_X12_fails rfl cf_11 (g_K123 G) rfl rfl (Nat.le_refl _) ⟨Nat.le_refl _, Nat.le_refl _⟩ (Nat.le_of_ble_eq_true rfl) dX12_digits_90 ?_
  refine X_iload_n 2 dX12_digits_93 rfl rfl ?_
  cases hm
  exact X_iret dX12_digits_94 rfl
def mX12_digits  (I : Nat → Nat → Int32) (a1 : Int32) : Option (Int32 × (Nat → Nat → Int32)) := (Option.bind (mX12_isDigit I) (fun q1 => (if q1 = 0 then (Option.bind (mX12_fails I (0 : Int32) (I 123 28)) (fun q15 => (some ((0 : Int32), q15)))) else (mX12_digits_25 (fun (I_10 : (Nat → Nat → Int32)) (a1_10 : Int32) (a2_10 : Int32) (a3_10 : Int32) => (if (5 : Int32) < ((I_10 123 28) - a2_10) then (mX12_digits_87 I_10 a2_10 a3_10) else (if a3_10 ≤ a1_10 then (some (a3_10, I_10)) else (mX12_digits_87 I_10 a2_10 a3_10)))) xf I a1 (I 123 28) (0 : Int32)))))
set_option maxHeartbeats 400000 in
set_option maxRecDepth 100000 in
theorem kX12_digits {E : xE} {B : Nat} {n : Nat} {K : Nat → Nat × Nat} {P : Nat → Nat → Nat} {I : Nat → Nat → Int32} {L : Nat → Nat → Int64}  {a1 : Int32} {q : Int32 × (Nat → Nat → Int32)} (d : Nat) (hd : 2 ≤ d) (G : GW K P)   (hm : mX12_digits I a1 = some q) : MX E B d 0 0 yX12_digits cX12_digits 4 (some .int) [.ref 123, .int a1] (n, K, P, I, L) (some (.int q.1), (n, K, P, q.2, L)) := by
  refine MX_of (lv := [(0, .ref 123), (1, .int a1)]) (by decide +kernel) (Nat.le_of_ble_eq_true rfl) rfl ?_
  obtain ⟨d, rfl⟩ : ∃ d0, d = d0 + 1 := ⟨d - 1, by omega⟩
  unfold mX12_digits at hm
  refine X_aload_n 0 dX12_digits_0 rfl rfl rfl ?_
  obtain ⟨q1, e2, hm⟩ := ob hm
  refine X_cV1 (ci := 11) (kX12_isDigit d (by omega) G e2) ml_X12_242 mi_X12_isDigit rfl cf_11 (g_K123 G) rfl rfl (Nat.le_refl _) ⟨Nat.le_refl _, Nat.le_refl _⟩ (Nat.le_of_ble_eq_true rfl) dX12_digits_1 ?_
  refine X_if_ne (tgt := 18) dX12_digits_4 (by decide) (fun c3 => ?_) (fun c3 => ?_)
  · replace hm := iq c3 hm
    refine X_aload_n 0 dX12_digits_18 rfl rfl rfl ?_
    refine X_getI fl_X12_202 (g_K123 G) rfl dX12_digits_19 ?_
    refine X_istore_n (lv' := [(2, .int (I 123 28)), (0, .ref 123), (1, .int a1)]) dX12_digits_22 rfl (by decide) rfl ?_
    refine X_iconst (v := (0 : Int32)) dX12_digits_23 (by decide) ?_
    refine X_istore_n (lv' := [(3, .int (0 : Int32)), (2, .int (I 123 28)), (0, .ref 123), (1, .int a1)]) dX12_digits_24 rfl (by decide) rfl ?_
    refine X_lv [2, 3, 1, 0] rfl (kX12_digits_25 _ hd G (fun I_10 a1_10 a2_10 a3_10 hm => ?_) xf _ _ _ _  hm)
    refine X_aload_n 0 dX12_digits_72 rfl rfl rfl ?_
    refine X_getI fl_X12_202 (g_K123 G) rfl dX12_digits_73 ?_
    refine X_iload_n 2 dX12_digits_76 rfl rfl ?_
    refine X_isub dX12_digits_77 ?_
    refine X_iconst (v := (5 : Int32)) dX12_digits_78 (by decide) ?_
    refine X_icmp_gt (tgt := 87) dX12_digits_79 (by decide) (fun c11 => ?_) (fun c11 => ?_)
    · replace hm := ip c11 hm
      exact X_lv [0, 2, 3] rfl (kX12_digits_87 _ hd G hm)
    · replace hm := iq c11 hm
      refine X_iload_n 3 dX12_digits_82 rfl rfl ?_
      refine X_iload_n 1 dX12_digits_83 rfl rfl ?_
      refine X_icmp_le (tgt := 93) dX12_digits_84 (by decide) (fun c14 => ?_) (fun c14 => ?_)
      · replace hm := ip c14 hm
        refine X_iload_n 3 dX12_digits_93 rfl rfl ?_
        cases hm
        exact X_iret dX12_digits_94 rfl
      · replace hm := iq c14 hm
        exact X_lv [0, 2, 3] rfl (kX12_digits_87 _ hd G hm)
  · replace hm := ip c3 hm
    refine X_aload_n 0 dX12_digits_7 rfl rfl rfl ?_
    refine X_iconst (v := (0 : Int32)) dX12_digits_8 (by decide) ?_
    refine X_aload_n 0 dX12_digits_9 rfl rfl rfl ?_
    refine X_getI fl_X12_202 (g_K123 G) rfl dX12_digits_10 ?_
    obtain ⟨q15, e16, hm⟩ := ob hm
    refine X_cV0 (ci := 11) (kX12_fails d (by omega) G e16) ml_X12_238 mi_X12_fails rfl cf_11 (g_K123 G) rfl rfl (Nat.le_refl _) ⟨Nat.le_refl _, Nat.le_refl _⟩ (Nat.le_of_ble_eq_true rfl) dX12_digits_13 ?_
    refine X_iconst (v := (0 : Int32)) dX12_digits_16 (by decide) ?_
    cases hm
    exact X_iret dX12_digits_17 rfl
def mX12_top (I : Nat → Nat → Int32)  : Option (Int32) := (if (I 123 35) = 0 then (some (-1 : Int32)) else (if inb ((I 123 35) - (1 : Int32)) 402 = true then (some (I 157 (ix ((I 123 35) - (1 : Int32))))) else none))
set_option maxHeartbeats 400000 in
set_option maxRecDepth 100000 in
theorem kX12_top {E : xE} {B : Nat} {n : Nat} {K : Nat → Nat × Nat} {P : Nat → Nat → Nat} {I : Nat → Nat → Int32} {L : Nat → Nat → Int64}   {q : Int32} (d : Nat) (hd : 0 ≤ d) (G : GW K P)   (hm : mX12_top I = some q) : MX E B d 0 0 yX12_top cX12_top 1 (some .int) [.ref 123] (n, K, P, I, L) (some (.int q), (n, K, P, I, L)) := by
  refine MX_of (lv := [(0, .ref 123)]) (by decide +kernel) (Nat.le_of_ble_eq_true rfl) rfl ?_
  unfold mX12_top at hm
  refine X_aload_n 0 dX12_top_0 rfl rfl rfl ?_
  refine X_getI fl_X12_269 (g_K123 G) rfl dX12_top_1 ?_
  refine X_if_ne (tgt := 11) dX12_top_4 (by decide) (fun c1 => ?_) (fun c1 => ?_)
  · replace hm := iq c1 hm
    refine X_aload_n 0 dX12_top_11 rfl rfl rfl ?_
    refine X_getPe fl_X12_114 (g_K123 G) rfl (g_P123_44 G) dX12_top_12 ?_
    refine X_aload_n 0 dX12_top_15 rfl rfl rfl ?_
    refine X_getI fl_X12_269 (g_K123 G) rfl dX12_top_16 ?_
    refine X_iconst (v := (1 : Int32)) dX12_top_19 (by decide) ?_
    refine X_isub dX12_top_20 ?_
    obtain ⟨g2, hm⟩ := og hm
    refine X_ialdJ (g_K157 G) g2 rfl dX12_top_21 ?_
    cases hm
    exact X_iret dX12_top_22 rfl
  · replace hm := ip c1 hm
    refine X_iconst (v := (-1 : Int32)) dX12_top_7 (by decide) ?_
    refine X_goto (tgt := 22) dX12_top_8 (by decide) ?_
    cases hm
    exact X_iret dX12_top_22 rfl
def mX12_opens_40  (I : Nat → Nat → Int32) (a1 : Int32) : Option ((Nat → Nat → Int32)) := (if inb (I 123 35) 402 = true then (some (xu (xu I 157 (ix (I 123 35)) a1) 123 35 (((xu I 157 (ix (I 123 35)) a1) 123 35) + (1 : Int32)))) else none)
set_option maxHeartbeats 400000 in
set_option maxRecDepth 100000 in
theorem kX12_opens_40 {E : xE} {B : Nat} {n : Nat} {K : Nat → Nat × Nat} {P : Nat → Nat → Nat} {I : Nat → Nat → Int32} {L : Nat → Nat → Int64}   {a1 : Int32} {q : (Nat → Nat → Int32)} (d : Nat) (hd : 1 ≤ d) (G : GW K P)    (hm : mX12_opens_40 I a1 = some q) : X E B d 0 0 yX12_opens cX12_opens 2 (none : Option Jvm.ClassFile.FieldType) (none, (n, K, P, q, L)) 40 [(0, .ref 123), (1, .int a1)] [] 0 0 (n, K, P, I, L) := by
  obtain ⟨d, rfl⟩ : ∃ d0, d = d0 + 1 := ⟨d - 1, by omega⟩
  unfold mX12_opens_40 at hm
  refine X_aload_n 0 dX12_opens_40 rfl rfl rfl ?_
  refine X_getPe fl_X12_114 (g_K123 G) rfl (g_P123_44 G) dX12_opens_41 ?_
  refine X_aload_n 0 dX12_opens_44 rfl rfl rfl ?_
  refine X_getI fl_X12_269 (g_K123 G) rfl dX12_opens_45 ?_
  refine X_iload_n 1 dX12_opens_48 rfl rfl ?_
  obtain ⟨g3, hm⟩ := og hm
  refine X_iastJ (g_K157 G) g3 rfl dX12_opens_49 ?_
  refine X_aload_n 0 dX12_opens_50 rfl rfl rfl ?_
  refine X_dup dX12_opens_51 rfl ?_
  refine X_getI fl_X12_269 (g_K123 G) rfl dX12_opens_52 ?_
  refine X_iconst (v := (1 : Int32)) dX12_opens_55 (by decide) ?_
  refine X_iadd dX12_opens_56 ?_
  refine X_putI fl_X12_269 (g_K123 G) rfl rfl dX12_opens_57 ?_
  cases hm
  exact X_vret dX12_opens_60 rfl
def mX12_opens_30  (I : Nat → Nat → Int32) (a1 : Int32) : Option ((Nat → Nat → Int32)) := (mX12_opens_40 (xu I 123 33 ((I 123 33) + (1 : Int32))) a1)
set_option maxHeartbeats 400000 in
set_option maxRecDepth 100000 in
theorem kX12_opens_30 {E : xE} {B : Nat} {n : Nat} {K : Nat → Nat × Nat} {P : Nat → Nat → Nat} {I : Nat → Nat → Int32} {L : Nat → Nat → Int64}   {a1 : Int32} {q : (Nat → Nat → Int32)} (d : Nat) (hd : 1 ≤ d) (G : GW K P)    (hm : mX12_opens_30 I a1 = some q) : X E B d 0 0 yX12_opens cX12_opens 2 (none : Option Jvm.ClassFile.FieldType) (none, (n, K, P, q, L)) 30 [(0, .ref 123), (1, .int a1)] [] 0 0 (n, K, P, I, L) := by
  obtain ⟨d, rfl⟩ : ∃ d0, d = d0 + 1 := ⟨d - 1, by omega⟩
  unfold mX12_opens_30 at hm
  refine X_aload_n 0 dX12_opens_30 rfl rfl rfl ?_
  refine X_dup dX12_opens_31 rfl ?_
  refine X_getI fl_X12_272 (g_K123 G) rfl dX12_opens_32 ?_
  refine X_iconst (v := (1 : Int32)) dX12_opens_35 (by decide) ?_
  refine X_iadd dX12_opens_36 ?_
  refine X_putI fl_X12_272 (g_K123 G) rfl rfl dX12_opens_37 ?_
  exact kX12_opens_40 _ hd G hm
def mX12_opens_12  (I : Nat → Nat → Int32) (a1 : Int32) : Option ((Nat → Nat → Int32)) := (if (I 123 33) = (10 : Int32) then (Option.bind (mX12_fails I (2 : Int32) (I 123 28)) (fun q4 => (mX12_opens_30 q4 a1))) else (mX12_opens_30 I a1))
set_option maxHeartbeats 400000 in
set_option maxRecDepth 100000 in
theorem kX12_opens_12 {E : xE} {B : Nat} {n : Nat} {K : Nat → Nat × Nat} {P : Nat → Nat → Nat} {I : Nat → Nat → Int32} {L : Nat → Nat → Int64}   {a1 : Int32} {q : (Nat → Nat → Int32)} (d : Nat) (hd : 1 ≤ d) (G : GW K P)    (hm : mX12_opens_12 I a1 = some q) : X E B d 0 0 yX12_opens cX12_opens 2 (none : Option Jvm.ClassFile.FieldType) (none, (n, K, P, q, L)) 12 [(0, .ref 123), (1, .int a1)] [] 0 0 (n, K, P, I, L) := by
  obtain ⟨d, rfl⟩ : ∃ d0, d = d0 + 1 := ⟨d - 1, by omega⟩
  unfold mX12_opens_12 at hm
  refine X_aload_n 0 dX12_opens_12 rfl rfl rfl ?_
  refine X_getI fl_X12_272 (g_K123 G) rfl dX12_opens_13 ?_
  refine X_bipush (v := (10 : Int32)) dX12_opens_16 (by decide) ?_
  refine X_icmp_ne (tgt := 30) dX12_opens_18 (by decide) (fun c2 => ?_) (fun c2 => ?_)
  · replace hm := iq c2 hm
    exact kX12_opens_30 _ hd G hm
  · replace hm := ip c2 hm
    refine X_aload_n 0 dX12_opens_21 rfl rfl rfl ?_
    refine X_iconst (v := (2 : Int32)) dX12_opens_22 (by decide) ?_
    refine X_aload_n 0 dX12_opens_23 rfl rfl rfl ?_
    refine X_getI fl_X12_202 (g_K123 G) rfl dX12_opens_24 ?_
    obtain ⟨q4, e5, hm⟩ := ob hm
    refine X_cV0 (ci := 11) (kX12_fails d (by omega) G e5) ml_X12_238 mi_X12_fails rfl cf_11 (g_K123 G) rfl rfl (Nat.le_refl _) ⟨Nat.le_refl _, Nat.le_refl _⟩ (Nat.le_of_ble_eq_true rfl) dX12_opens_27 ?_
    exact kX12_opens_30 _ hd G hm
def mX12_opens  (I : Nat → Nat → Int32) (a1 : Int32) : Option ((Nat → Nat → Int32)) := (if a1 = (9 : Int32) then (mX12_opens_12 I a1) else (if a1 = (12 : Int32) then (mX12_opens_12 I a1) else (mX12_opens_40 I a1)))
set_option maxHeartbeats 400000 in
set_option maxRecDepth 100000 in
theorem kX12_opens {E : xE} {B : Nat} {n : Nat} {K : Nat → Nat × Nat} {P : Nat → Nat → Nat} {I : Nat → Nat → Int32} {L : Nat → Nat → Int64}  {a1 : Int32} {q : (Nat → Nat → Int32)} (d : Nat) (hd : 1 ≤ d) (G : GW K P)   (hm : mX12_opens I a1 = some q) : MX E B d 0 0 yX12_opens cX12_opens 2 (none : Option Jvm.ClassFile.FieldType) [.ref 123, .int a1] (n, K, P, I, L) (none, (n, K, P, q, L)) := by
  refine MX_of (lv := [(0, .ref 123), (1, .int a1)]) (by decide +kernel) (Nat.le_of_ble_eq_true rfl) rfl ?_
  obtain ⟨d, rfl⟩ : ∃ d0, d = d0 + 1 := ⟨d - 1, by omega⟩
  unfold mX12_opens at hm
  refine X_iload_n 1 dX12_opens_0 rfl rfl ?_
  refine X_bipush (v := (9 : Int32)) dX12_opens_1 (by decide) ?_
  refine X_icmp_eq (tgt := 12) dX12_opens_3 (by decide) (fun c1 => ?_) (fun c1 => ?_)
  · replace hm := ip c1 hm
    exact kX12_opens_12 _ hd G hm
  · replace hm := iq c1 hm
    refine X_iload_n 1 dX12_opens_6 rfl rfl ?_
    refine X_bipush (v := (12 : Int32)) dX12_opens_7 (by decide) ?_
    refine X_icmp_ne (tgt := 40) dX12_opens_9 (by decide) (fun c6 => ?_) (fun c6 => ?_)
    · replace hm := iq c6 hm
      exact kX12_opens_40 _ hd G hm
    · replace hm := ip c6 hm
      exact kX12_opens_12 _ hd G hm
def mX12_answers_0   : Nat → (Nat → Nat → Int32) → Int32 → Option ((Nat → Nat → Int32))
  | 0, _, _ => none
  | f + 1, I, a1 => (Option.bind (mX12_top I) (fun q1 => (if q1 = a1 then (if (I 123 29) = 0 then (Option.bind (mX12_entry I a1 (0 : Int32)) (fun q5 => (if a1 = (9 : Int32) then (mX12_answers_0 f (xu (xu q5 123 35 ((q5 123 35) - (1 : Int32))) 123 33 (((xu q5 123 35 ((q5 123 35) - (1 : Int32))) 123 33) - (1 : Int32))) a1) else (mX12_answers_0 f (xu (xu q5 123 35 ((q5 123 35) - (1 : Int32))) 123 33 (((xu q5 123 35 ((q5 123 35) - (1 : Int32))) 123 33) - (0 : Int32))) a1)))) else (some I)) else (some I))))
set_option maxHeartbeats 400000 in
set_option maxRecDepth 100000 in
theorem kX12_answers_0 {E : xE} {B : Nat} {n : Nat} {K : Nat → Nat × Nat} {P : Nat → Nat → Nat} {L : Nat → Nat → Int64}   {q : (Nat → Nat → Int32)} (d : Nat) (hd : 1 ≤ d) (G : GW K P)   : ∀ (f : Nat) (I : Nat → Nat → Int32) (a1 : Int32), mX12_answers_0 f I a1 = some q → X E B d 0 0 yX12_answers cX12_answers 2 (none : Option Jvm.ClassFile.FieldType) (none, (n, K, P, q, L)) 0 [(0, .ref 123), (1, .int a1)] [] 0 0 (n, K, P, I, L) := by
  obtain ⟨d, rfl⟩ : ∃ d0, d = d0 + 1 := ⟨d - 1, by omega⟩
  intro f
  induction f with
  | zero => intro _ _ hm; exact nomatch (show (none : Option ((Nat → Nat → Int32))) = some q from hm)
  | succ f ih =>
    intro I a1 hm
    rw [mX12_answers_0] at hm
    refine X_aload_n 0 dX12_answers_0 rfl rfl rfl ?_
    obtain ⟨q1, e2, hm⟩ := ob hm
    refine X_cV1 (ci := 11) (kX12_top d (by omega) G e2) ml_X12_275 mi_X12_top rfl cf_11 (g_K123 G) rfl rfl (Nat.le_refl _) ⟨Nat.le_refl _, Nat.le_refl _⟩ (Nat.le_of_ble_eq_true rfl) dX12_answers_1 ?_
    refine X_iload_n 1 dX12_answers_4 rfl rfl ?_
    refine X_icmp_ne (tgt := 54) dX12_answers_5 (by decide) (fun c3 => ?_) (fun c3 => ?_)
    · replace hm := iq c3 hm
      cases hm
      exact X_vret dX12_answers_54 rfl
    · replace hm := ip c3 hm
      refine X_aload_n 0 dX12_answers_8 rfl rfl rfl ?_
      refine X_getI fl_X12_199 (g_K123 G) rfl dX12_answers_9 ?_
      refine X_if_ne (tgt := 54) dX12_answers_12 (by decide) (fun c4 => ?_) (fun c4 => ?_)
      · replace hm := iq c4 hm
        cases hm
        exact X_vret dX12_answers_54 rfl
      · replace hm := ip c4 hm
        refine X_aload_n 0 dX12_answers_15 rfl rfl rfl ?_
        refine X_iload_n 1 dX12_answers_16 rfl rfl ?_
        refine X_iconst (v := (0 : Int32)) dX12_answers_17 (by decide) ?_
        obtain ⟨q5, e6, hm⟩ := ob hm
        refine X_cV0 (ci := 11) (kX12_entry d (by omega) G e6) ml_X12_254 mi_X12_entry rfl cf_11 (g_K123 G) rfl rfl (Nat.le_refl _) ⟨Nat.le_refl _, Nat.le_refl _⟩ (Nat.le_of_ble_eq_true rfl) dX12_answers_18 ?_
        refine X_aload_n 0 dX12_answers_21 rfl rfl rfl ?_
        refine X_dup dX12_answers_22 rfl ?_
        refine X_getI fl_X12_269 (g_K123 G) rfl dX12_answers_23 ?_
        refine X_iconst (v := (1 : Int32)) dX12_answers_26 (by decide) ?_
        refine X_isub dX12_answers_27 ?_
        refine X_putI fl_X12_269 (g_K123 G) rfl rfl dX12_answers_28 ?_
        refine X_aload_n 0 dX12_answers_31 rfl rfl rfl ?_
        refine X_dup dX12_answers_32 rfl ?_
        refine X_getI fl_X12_272 (g_K123 G) rfl dX12_answers_33 ?_
        refine X_iload_n 1 dX12_answers_36 rfl rfl ?_
        refine X_bipush (v := (9 : Int32)) dX12_answers_37 (by decide) ?_
        refine X_icmp_ne (tgt := 46) dX12_answers_39 (by decide) (fun c7 => ?_) (fun c7 => ?_)
        · replace hm := iq c7 hm
          refine X_iconst (v := (0 : Int32)) dX12_answers_46 (by decide) ?_
          refine X_isub dX12_answers_47 ?_
          refine X_putI fl_X12_272 (g_K123 G) rfl rfl dX12_answers_48 ?_
          refine X_goto (tgt := 0) dX12_answers_51 (by decide) ?_
          exact ih _ _ hm
        · replace hm := ip c7 hm
          refine X_iconst (v := (1 : Int32)) dX12_answers_42 (by decide) ?_
          refine X_goto (tgt := 47) dX12_answers_43 (by decide) ?_
          refine X_isub dX12_answers_47 ?_
          refine X_putI fl_X12_272 (g_K123 G) rfl rfl dX12_answers_48 ?_
          refine X_goto (tgt := 0) dX12_answers_51 (by decide) ?_
          exact ih _ _ hm
def mX12_answers  (I : Nat → Nat → Int32) (a1 : Int32) : Option ((Nat → Nat → Int32)) := (mX12_answers_0 xf I a1)
set_option maxHeartbeats 400000 in
set_option maxRecDepth 100000 in
theorem kX12_answers {E : xE} {B : Nat} {n : Nat} {K : Nat → Nat × Nat} {P : Nat → Nat → Nat} {I : Nat → Nat → Int32} {L : Nat → Nat → Int64}  {a1 : Int32} {q : (Nat → Nat → Int32)} (d : Nat) (hd : 1 ≤ d) (G : GW K P)   (hm : mX12_answers I a1 = some q) : MX E B d 0 0 yX12_answers cX12_answers 2 (none : Option Jvm.ClassFile.FieldType) [.ref 123, .int a1] (n, K, P, I, L) (none, (n, K, P, q, L)) := by
  refine MX_of (lv := [(0, .ref 123), (1, .int a1)]) (by decide +kernel) (Nat.le_of_ble_eq_true rfl) rfl ?_
  obtain ⟨d, rfl⟩ : ∃ d0, d = d0 + 1 := ⟨d - 1, by omega⟩
  unfold mX12_answers at hm
  refine kX12_answers_0 _ hd G xf _ _  hm
def mX12_amount_26  (I : Nat → Nat → Int32) (a1 : Int32) (a2 : Int32) (a3 : Int32) (t0 : Int32) : Option (Int32 × (Nat → Nat → Int32)) := (if (I 123 29) = 0 then (Option.bind (mX12_in t0.toInt64 a1.toInt64 a2.toInt64) (fun q5 => (if q5 = 0 then (Option.bind (mX12_fails I (1 : Int32) a3) (fun q8 => (some (t0, q8)))) else (some (t0, I))))) else (some (t0, I)))
set_option maxHeartbeats 400000 in
set_option maxRecDepth 100000 in
theorem kX12_amount_26 {E : xE} {B : Nat} {n : Nat} {K : Nat → Nat × Nat} {P : Nat → Nat → Nat} {I : Nat → Nat → Int32} {L : Nat → Nat → Int64}   {a1 : Int32} {a2 : Int32} {a3 : Int32} {t0 : Int32} {q : Int32 × (Nat → Nat → Int32)} (d : Nat) (hd : 3 ≤ d) (G : GW K P)    (hm : mX12_amount_26 I a1 a2 a3 t0 = some q) : X E B d 0 0 yX12_amount cX12_amount 5 (some .int) (some (.int q.1), (n, K, P, q.2, L)) 26 [(0, .ref 123), (1, .int a1), (2, .int a2), (3, .int a3)] [.int t0] 0 0 (n, K, P, I, L) := by
  obtain ⟨d, rfl⟩ : ∃ d0, d = d0 + 1 := ⟨d - 1, by omega⟩
  unfold mX12_amount_26 at hm
  refine X_istore (lv' := [(4, .int t0), (0, .ref 123), (1, .int a1), (2, .int a2), (3, .int a3)]) dX12_amount_26 (by decide) rfl ?_
  refine X_aload_n 1 dX12_amount_28 rfl rfl rfl ?_
  refine X_getI fl_X12_199 (g_K123 G) rfl dX12_amount_29 ?_
  refine X_if_ne (tgt := 54) dX12_amount_32 (by decide) (fun c4 => ?_) (fun c4 => ?_)
  · replace hm := iq c4 hm
    refine X_iload 0 dX12_amount_54 rfl ?_
    cases hm
    exact X_iret dX12_amount_56 rfl
  · replace hm := ip c4 hm
    refine X_iload 0 dX12_amount_35 rfl ?_
    refine X_i2l dX12_amount_37 ?_
    refine X_iload_n 2 dX12_amount_38 rfl rfl ?_
    refine X_i2l dX12_amount_39 ?_
    refine X_iload_n 3 dX12_amount_40 rfl rfl ?_
    refine X_i2l dX12_amount_41 ?_
    obtain ⟨q5, e6, hm⟩ := ob hm
    refine X_cS1 (kX12_in d (by omega) G e6) ml_X12_164 ms_X12_in rfl rfl (Nat.le_refl _) ⟨Nat.le_refl _, Nat.le_refl _⟩ (Nat.le_of_ble_eq_true rfl) dX12_amount_42 ?_
    refine X_if_ne (tgt := 54) dX12_amount_45 (by decide) (fun c7 => ?_) (fun c7 => ?_)
    · replace hm := iq c7 hm
      refine X_iload 0 dX12_amount_54 rfl ?_
      cases hm
      exact X_iret dX12_amount_56 rfl
    · replace hm := ip c7 hm
      refine X_aload_n 1 dX12_amount_48 rfl rfl rfl ?_
      refine X_iconst (v := (1 : Int32)) dX12_amount_49 (by decide) ?_
      refine X_iload_n 4 dX12_amount_50 rfl rfl ?_
      obtain ⟨q8, e9, hm⟩ := ob hm
      refine X_cV0 (ci := 11) (kX12_fails d (by omega) G e9) ml_X12_238 mi_X12_fails rfl cf_11 (g_K123 G) rfl rfl (Nat.le_refl _) ⟨Nat.le_refl _, Nat.le_refl _⟩ (Nat.le_of_ble_eq_true rfl) dX12_amount_51 ?_
      refine X_iload 0 dX12_amount_54 rfl ?_
      cases hm
      exact X_iret dX12_amount_56 rfl
def mX12_amount  (I : Nat → Nat → Int32) (a1 : Int32) (a2 : Int32) : Option (Int32 × (Nat → Nat → Int32)) := (Option.bind (mX12_blanks I) (fun q1 => (if (q1 123 29) = 0 then (Option.bind (mX12_digits q1 (99999 : Int32)) (fun q10 => (mX12_amount_26 q10.2 a1 a2 (q1 123 28) q10.1))) else (mX12_amount_26 q1 a1 a2 (q1 123 28) (0 : Int32)))))
set_option maxHeartbeats 400000 in
set_option maxRecDepth 100000 in
theorem kX12_amount {E : xE} {B : Nat} {n : Nat} {K : Nat → Nat × Nat} {P : Nat → Nat → Nat} {I : Nat → Nat → Int32} {L : Nat → Nat → Int64}  {a1 : Int32} {a2 : Int32} {q : Int32 × (Nat → Nat → Int32)} (d : Nat) (hd : 3 ≤ d) (G : GW K P)   (hm : mX12_amount I a1 a2 = some q) : MX E B d 0 0 yX12_amount cX12_amount 5 (some .int) [.ref 123, .int a1, .int a2] (n, K, P, I, L) (some (.int q.1), (n, K, P, q.2, L)) := by
  refine MX_of (lv := [(0, .ref 123), (1, .int a1), (2, .int a2)]) (by decide +kernel) (Nat.le_of_ble_eq_true rfl) rfl ?_
  obtain ⟨d, rfl⟩ : ∃ d0, d = d0 + 1 := ⟨d - 1, by omega⟩
  unfold mX12_amount at hm
  refine X_aload_n 0 dX12_amount_0 rfl rfl rfl ?_
  obtain ⟨q1, e2, hm⟩ := ob hm
  refine X_cV0 (ci := 11) (kX12_blanks d (by omega) G e2) ml_X12_222 mi_X12_blanks rfl cf_11 (g_K123 G) rfl rfl (Nat.le_refl _) ⟨Nat.le_refl _, Nat.le_refl _⟩ (Nat.le_of_ble_eq_true rfl) dX12_amount_1 ?_
  refine X_aload_n 0 dX12_amount_4 rfl rfl rfl ?_
  refine X_getI fl_X12_202 (g_K123 G) rfl dX12_amount_5 ?_
  refine X_istore_n (lv' := [(3, .int (q1 123 28)), (0, .ref 123), (1, .int a1), (2, .int a2)]) dX12_amount_8 rfl (by decide) rfl ?_
  refine X_aload_n 1 dX12_amount_9 rfl rfl rfl ?_
  refine X_getI fl_X12_199 (g_K123 G) rfl dX12_amount_10 ?_
  refine X_if_ne (tgt := 25) dX12_amount_13 (by decide) (fun c3 => ?_) (fun c3 => ?_)
  · replace hm := iq c3 hm
    refine X_iconst (v := (0 : Int32)) dX12_amount_25 (by decide) ?_
    exact X_lv [1, 2, 3, 0] rfl (kX12_amount_26 _ hd G hm)
  · replace hm := ip c3 hm
    refine X_aload_n 1 dX12_amount_16 rfl rfl rfl ?_
    refine X_ldc lc_X12_246 dX12_amount_17 ?_
    obtain ⟨q10, e11, hm⟩ := ob hm
    refine X_cV1 (ci := 11) (kX12_digits d (by omega) G e11) ml_X12_247 mi_X12_digits rfl cf_11 (g_K123 G) rfl rfl (Nat.le_refl _) ⟨Nat.le_refl _, Nat.le_refl _⟩ (Nat.le_of_ble_eq_true rfl) dX12_amount_19 ?_
    refine X_goto (tgt := 26) dX12_amount_22 (by decide) ?_
    exact X_lv [1, 2, 3, 0] rfl (kX12_amount_26 _ hd G hm)
def mX12_streetWord  (a0 : Int32) : Option (Nat) := (if a0 = (0 : Int32) then (some 2) else (if a0 = (1 : Int32) then (some 3) else (if a0 = (2 : Int32) then (some 4) else (if a0 = (3 : Int32) then (some 5) else (if a0 = (4 : Int32) then (some 6) else (if a0 = (5 : Int32) then (some 7) else (some 8)))))))
set_option maxHeartbeats 400000 in
set_option maxRecDepth 100000 in
theorem kX12_streetWord {E : xE} {B : Nat} {n : Nat} {K : Nat → Nat × Nat} {P : Nat → Nat → Nat} {I : Nat → Nat → Int32} {L : Nat → Nat → Int64}  {a0 : Int32} {q : Nat} (d : Nat) (hd : 0 ≤ d) (G : GW K P)   (hm : mX12_streetWord a0 = some q) : MX E B d 0 0 yX12_streetWord cX12_streetWord 1 (some (.object "java/lang/String")) [.int a0] (n, K, P, I, L) (some (.retAddr q), (n, K, P, I, L)) := by
  refine MX_of (lv := [(0, .int a0)]) (by decide +kernel) (Nat.le_of_ble_eq_true rfl) rfl ?_
  unfold mX12_streetWord at hm
  refine X_iload_n 0 dX12_streetWord_0 rfl rfl ?_
  rcases Decidable.em (a0 = (0 : Int32)) with c1 | c1
  · replace hm := ip c1 hm
    refine X_swK (off := 39) (tgt := 40) c1 dX12_streetWord_1 (by decide) (by decide) (by decide) (by decide) ?_
    refine X_ldcwS (i := 2) rfl (by decide) dX12_streetWord_40 ?_
    cases hm
    exact X_aret dX12_streetWord_43 rfl (Or.inl ⟨_, rfl⟩) rfl
  · replace hm := iq c1 hm
    rcases Decidable.em (a0 = (1 : Int32)) with c2 | c2
    · replace hm := ip c2 hm
      refine X_swK (off := 43) (tgt := 44) c2 dX12_streetWord_1 (by decide) (by decide) (by decide) (by decide) ?_
      refine X_ldcS (i := 3) rfl (by decide) dX12_streetWord_44 ?_
      cases hm
      exact X_aret dX12_streetWord_46 rfl (Or.inl ⟨_, rfl⟩) rfl
    · replace hm := iq c2 hm
      rcases Decidable.em (a0 = (2 : Int32)) with c3 | c3
      · replace hm := ip c3 hm
        refine X_swK (off := 46) (tgt := 47) c3 dX12_streetWord_1 (by decide) (by decide) (by decide) (by decide) ?_
        refine X_ldcS (i := 4) rfl (by decide) dX12_streetWord_47 ?_
        cases hm
        exact X_aret dX12_streetWord_49 rfl (Or.inl ⟨_, rfl⟩) rfl
      · replace hm := iq c3 hm
        rcases Decidable.em (a0 = (3 : Int32)) with c4 | c4
        · replace hm := ip c4 hm
          refine X_swK (off := 49) (tgt := 50) c4 dX12_streetWord_1 (by decide) (by decide) (by decide) (by decide) ?_
          refine X_ldcwS (i := 5) rfl (by decide) dX12_streetWord_50 ?_
          cases hm
          exact X_aret dX12_streetWord_53 rfl (Or.inl ⟨_, rfl⟩) rfl
        · replace hm := iq c4 hm
          rcases Decidable.em (a0 = (4 : Int32)) with c5 | c5
          · replace hm := ip c5 hm
            refine X_swK (off := 53) (tgt := 54) c5 dX12_streetWord_1 (by decide) (by decide) (by decide) (by decide) ?_
            refine X_ldcwS (i := 6) rfl (by decide) dX12_streetWord_54 ?_
            cases hm
            exact X_aret dX12_streetWord_57 rfl (Or.inl ⟨_, rfl⟩) rfl
          · replace hm := iq c5 hm
            rcases Decidable.em (a0 = (5 : Int32)) with c6 | c6
            · replace hm := ip c6 hm
              refine X_swK (off := 57) (tgt := 58) c6 dX12_streetWord_1 (by decide) (by decide) (by decide) (by decide) ?_
              refine X_ldcS (i := 7) rfl (by decide) dX12_streetWord_58 ?_
              cases hm
              exact X_aret dX12_streetWord_60 rfl (Or.inl ⟨_, rfl⟩) rfl
            · replace hm := iq c6 hm
              refine X_tableOut (tgt := 61) dX12_streetWord_1 (sw_out 6 (by decide) (fun i hi => by
                have hi2 : i = 0 ∨ i = 1 ∨ i = 2 ∨ i = 3 ∨ i = 4 ∨ i = 5 := by omega
                rcases hi2 with rfl | rfl | rfl | rfl | rfl | rfl
                · exact c1
                · exact c2
                · exact c3
                · exact c4
                · exact c5
                · exact c6)) (by decide) ?_
              refine X_ldcwS (i := 8) rfl (by decide) dX12_streetWord_61 ?_
              cases hm
              exact X_aret dX12_streetWord_64 rfl (Or.inl ⟨_, rfl⟩) rfl
def mX12_readsThing_65  (I : Nat → Nat → Int32) (a1 : Int32) : Option ((Nat → Nat → Int32)) := (if inb (a1 + (1 : Int32)) 5 = true then (some (xu (xu I 141 3 ((I 141 3) + (1 : Int32))) 142 (ix (a1 + (1 : Int32))) ((xu I 141 3 ((I 141 3) + (1 : Int32))) 141 4))) else none)
set_option maxHeartbeats 400000 in
set_option maxRecDepth 100000 in
theorem kX12_readsThing_65 {E : xE} {B : Nat} {n : Nat} {K : Nat → Nat × Nat} {P : Nat → Nat → Nat} {I : Nat → Nat → Int32} {L : Nat → Nat → Int64}   {a1 : Int32} {q : (Nat → Nat → Int32)} (d : Nat) (hd : 4 ≤ d) (G : GW K P)    (hm : mX12_readsThing_65 I a1 = some q) : X E B d 0 0 yX12_readsThing cX12_readsThing 4 (none : Option Jvm.ClassFile.FieldType) (none, (n, K, P, q, L)) 65 [(0, .ref 123), (1, .int a1)] [] 0 0 (n, K, P, I, L) := by
  obtain ⟨d, rfl⟩ : ∃ d0, d = d0 + 1 := ⟨d - 1, by omega⟩
  unfold mX12_readsThing_65 at hm
  refine X_aload_n 0 dX12_readsThing_65 rfl rfl rfl ?_
  refine X_getPe fl_X12_61 (g_K123 G) rfl (g_P123_18 G) dX12_readsThing_66 ?_
  refine X_iconst (v := (3 : Int32)) dX12_readsThing_69 (by decide) ?_
  refine X_dup2 dX12_readsThing_70 rfl rfl ?_
  refine X_ialdJ (j := 3) (g_K141 G) rfl (by decide) dX12_readsThing_71 ?_
  refine X_iconst (v := (1 : Int32)) dX12_readsThing_72 (by decide) ?_
  refine X_iadd dX12_readsThing_73 ?_
  refine X_iastJ (j := 3) (g_K141 G) rfl (by decide) dX12_readsThing_74 ?_
  refine X_aload_n 0 dX12_readsThing_75 rfl rfl rfl ?_
  refine X_getPe fl_X12_64 (g_K123 G) rfl (g_P123_19 G) dX12_readsThing_76 ?_
  refine X_iload_n 1 dX12_readsThing_79 rfl rfl ?_
  refine X_iconst (v := (1 : Int32)) dX12_readsThing_80 (by decide) ?_
  refine X_iadd dX12_readsThing_81 ?_
  refine X_aload_n 0 dX12_readsThing_82 rfl rfl rfl ?_
  refine X_getPe fl_X12_61 (g_K123 G) rfl (g_P123_18 G) dX12_readsThing_83 ?_
  refine X_iconst (v := (4 : Int32)) dX12_readsThing_86 (by decide) ?_
  refine X_ialdJ (j := 4) (g_K141 G) rfl (by decide) dX12_readsThing_87 ?_
  obtain ⟨g8, hm⟩ := og hm
  refine X_iastJ (g_K142 G) g8 rfl dX12_readsThing_88 ?_
  cases hm
  exact X_vret dX12_readsThing_89 rfl
def mX12_readsThing_31  (I : Nat → Nat → Int32) (a1 : Int32) (t0 : Int32) (t1 : Int32) : Option ((Nat → Nat → Int32)) := (Option.bind (mX12_amount I t1 t0) (fun q2 => (Option.bind (mX12_amount q2.2 (0 : Int32) (20 : Int32)) (fun q4 => (if inb a1 4 = true then (if ((xu q4.2 143 (ix a1) q4.1) 123 29) = 0 then (mX12_readsThing_65 (xu (xu q4.2 143 (ix a1) q4.1) 141 4 (((xu q4.2 143 (ix a1) q4.1) 141 4) + q2.1)) a1) else (mX12_readsThing_65 (xu q4.2 143 (ix a1) q4.1) a1)) else none)))))
set_option maxHeartbeats 400000 in
set_option maxRecDepth 100000 in
theorem kX12_readsThing_31 {E : xE} {B : Nat} {n : Nat} {K : Nat → Nat × Nat} {P : Nat → Nat → Nat} {I : Nat → Nat → Int32} {L : Nat → Nat → Int64}   {a1 : Int32} {t0 : Int32} {t1 : Int32} {q : (Nat → Nat → Int32)} (d : Nat) (hd : 4 ≤ d) (G : GW K P)    (hm : mX12_readsThing_31 I a1 t0 t1 = some q) : X E B d 0 0 yX12_readsThing cX12_readsThing 4 (none : Option Jvm.ClassFile.FieldType) (none, (n, K, P, q, L)) 31 [(0, .ref 123), (1, .int a1)] [.int t0, .int t1, .ref 123] 0 0 (n, K, P, I, L) := by
  obtain ⟨d, rfl⟩ : ∃ d0, d = d0 + 1 := ⟨d - 1, by omega⟩
  unfold mX12_readsThing_31 at hm
  obtain ⟨q2, e3, hm⟩ := ob hm
  refine X_cV1 (ci := 11) (kX12_amount d (by omega) G e3) ml_X12_303 mi_X12_amount rfl cf_11 (g_K123 G) rfl rfl (Nat.le_refl _) ⟨Nat.le_refl _, Nat.le_refl _⟩ (Nat.le_of_ble_eq_true rfl) dX12_readsThing_31 ?_
  refine X_istore_n (lv' := [(3, .int q2.1), (0, .ref 123), (1, .int a1)]) dX12_readsThing_34 rfl (by decide) rfl ?_
  refine X_aload_n 1 dX12_readsThing_35 rfl rfl rfl ?_
  refine X_getPe fl_X12_67 (g_K123 G) rfl (g_P123_20 G) dX12_readsThing_36 ?_
  refine X_iload_n 2 dX12_readsThing_39 rfl rfl ?_
  refine X_aload_n 1 dX12_readsThing_40 rfl rfl rfl ?_
  refine X_iconst (v := (0 : Int32)) dX12_readsThing_41 (by decide) ?_
  refine X_bipush (v := (20 : Int32)) dX12_readsThing_42 (by decide) ?_
  obtain ⟨q4, e5, hm⟩ := ob hm
  refine X_cV1 (ci := 11) (kX12_amount d (by omega) G e5) ml_X12_303 mi_X12_amount rfl cf_11 (g_K123 G) rfl rfl (Nat.le_refl _) ⟨Nat.le_refl _, Nat.le_refl _⟩ (Nat.le_of_ble_eq_true rfl) dX12_readsThing_44 ?_
  obtain ⟨g6, hm⟩ := og hm
  refine X_iastJ (g_K143 G) g6 rfl dX12_readsThing_47 ?_
  refine X_aload_n 1 dX12_readsThing_48 rfl rfl rfl ?_
  refine X_getI fl_X12_199 (g_K123 G) rfl dX12_readsThing_49 ?_
  refine X_if_ne (tgt := 65) dX12_readsThing_52 (by decide) (fun c7 => ?_) (fun c7 => ?_)
  · replace hm := iq c7 hm
    exact X_lv [1, 2] rfl (kX12_readsThing_65 _ hd G hm)
  · replace hm := ip c7 hm
    refine X_aload_n 1 dX12_readsThing_55 rfl rfl rfl ?_
    refine X_getPe fl_X12_61 (g_K123 G) rfl (g_P123_18 G) dX12_readsThing_56 ?_
    refine X_iconst (v := (4 : Int32)) dX12_readsThing_59 (by decide) ?_
    refine X_dup2 dX12_readsThing_60 rfl rfl ?_
    refine X_ialdJ (j := 4) (g_K141 G) rfl (by decide) dX12_readsThing_61 ?_
    refine X_iload_n 0 dX12_readsThing_62 rfl rfl ?_
    refine X_iadd dX12_readsThing_63 ?_
    refine X_iastJ (j := 4) (g_K141 G) rfl (by decide) dX12_readsThing_64 ?_
    exact X_lv [1, 2] rfl (kX12_readsThing_65 _ hd G hm)
def mX12_readsThing  (I : Nat → Nat → Int32) : Option ((Nat → Nat → Int32)) := (if (6 : Int32) ≤ ((16 : Int32) - (I 141 4)) then (mX12_readsThing_31 I (I 141 3) (6 : Int32) (1 : Int32)) else (mX12_readsThing_31 I (I 141 3) ((16 : Int32) - (I 141 4)) (1 : Int32)))
set_option maxHeartbeats 400000 in
set_option maxRecDepth 100000 in
theorem kX12_readsThing {E : xE} {B : Nat} {n : Nat} {K : Nat → Nat × Nat} {P : Nat → Nat → Nat} {I : Nat → Nat → Int32} {L : Nat → Nat → Int64}   {q : (Nat → Nat → Int32)} (d : Nat) (hd : 4 ≤ d) (G : GW K P)   (hm : mX12_readsThing I = some q) : MX E B d 0 0 yX12_readsThing cX12_readsThing 4 (none : Option Jvm.ClassFile.FieldType) [.ref 123] (n, K, P, I, L) (none, (n, K, P, q, L)) := by
  refine MX_of (lv := [(0, .ref 123)]) (by decide +kernel) (Nat.le_of_ble_eq_true rfl) rfl ?_
  obtain ⟨d, rfl⟩ : ∃ d0, d = d0 + 1 := ⟨d - 1, by omega⟩
  unfold mX12_readsThing at hm
  refine X_aload_n 0 dX12_readsThing_0 rfl rfl rfl ?_
  refine X_getPe fl_X12_61 (g_K123 G) rfl (g_P123_18 G) dX12_readsThing_1 ?_
  refine X_iconst (v := (3 : Int32)) dX12_readsThing_4 (by decide) ?_
  refine X_ialdJ (j := 3) (g_K141 G) rfl (by decide) dX12_readsThing_5 ?_
  refine X_istore_n (lv' := [(1, .int (I 141 3)), (0, .ref 123)]) dX12_readsThing_6 rfl (by decide) rfl ?_
  refine X_bipush (v := (16 : Int32)) dX12_readsThing_7 (by decide) ?_
  refine X_aload_n 1 dX12_readsThing_9 rfl rfl rfl ?_
  refine X_getPe fl_X12_61 (g_K123 G) rfl (g_P123_18 G) dX12_readsThing_10 ?_
  refine X_iconst (v := (4 : Int32)) dX12_readsThing_13 (by decide) ?_
  refine X_ialdJ (j := 4) (g_K141 G) rfl (by decide) dX12_readsThing_14 ?_
  refine X_isub dX12_readsThing_15 ?_
  refine X_istore_n (lv' := [(2, .int ((16 : Int32) - (I 141 4))), (1, .int (I 141 3)), (0, .ref 123)]) dX12_readsThing_16 rfl (by decide) rfl ?_
  refine X_aload_n 2 dX12_readsThing_17 rfl rfl rfl ?_
  refine X_iconst (v := (1 : Int32)) dX12_readsThing_18 (by decide) ?_
  refine X_iload_n 0 dX12_readsThing_19 rfl rfl ?_
  refine X_bipush (v := (6 : Int32)) dX12_readsThing_20 (by decide) ?_
  refine X_icmp_ge (tgt := 29) dX12_readsThing_22 (by decide) (fun c1 => ?_) (fun c1 => ?_)
  · replace hm := ip c1 hm
    refine X_bipush (v := (6 : Int32)) dX12_readsThing_29 (by decide) ?_
    exact X_lv [2, 1] rfl (kX12_readsThing_31 _ hd G hm)
  · replace hm := iq c1 hm
    refine X_iload_n 0 dX12_readsThing_25 rfl rfl ?_
    refine X_goto (tgt := 31) dX12_readsThing_26 (by decide) ?_
    exact X_lv [2, 1] rfl (kX12_readsThing_31 _ hd G hm)
def mX12_readsCoat_91  (I : Nat → Nat → Int32) (a1 : Int32) (a2 : Int32) : Option ((Nat → Nat → Int32)) := (if inb a1 16 = true then (if inb (((5 : Int32) * a1) + (I 148 (ix a1))) 80 = true then (if inb a1 16 = true then (if inb a1 16 = true then (some (xu (xu I 149 (ix (((5 : Int32) * a1) + (I 148 (ix a1)))) a2) 148 (ix a1) (((xu I 149 (ix (((5 : Int32) * a1) + (I 148 (ix a1)))) a2) 148 (ix a1)) + (1 : Int32)))) else none) else none) else none) else none)
set_option maxHeartbeats 400000 in
set_option maxRecDepth 100000 in
theorem kX12_readsCoat_91 {E : xE} {B : Nat} {n : Nat} {K : Nat → Nat × Nat} {P : Nat → Nat → Nat} {I : Nat → Nat → Int32} {L : Nat → Nat → Int64}   {a1 : Int32} {a2 : Int32} {q : (Nat → Nat → Int32)} (d : Nat) (hd : 4 ≤ d) (G : GW K P)    (hm : mX12_readsCoat_91 I a1 a2 = some q) : X E B d 0 0 yX12_readsCoat cX12_readsCoat 4 (none : Option Jvm.ClassFile.FieldType) (none, (n, K, P, q, L)) 91 [(0, .ref 123), (1, .int a1), (2, .int a2)] [] 0 0 (n, K, P, I, L) := by
  obtain ⟨d, rfl⟩ : ∃ d0, d = d0 + 1 := ⟨d - 1, by omega⟩
  unfold mX12_readsCoat_91 at hm
  refine X_aload_n 0 dX12_readsCoat_91 rfl rfl rfl ?_
  refine X_getPe fl_X12_85 (g_K123 G) rfl (g_P123_26 G) dX12_readsCoat_92 ?_
  refine X_iconst (v := (5 : Int32)) dX12_readsCoat_95 (by decide) ?_
  refine X_iload_n 1 dX12_readsCoat_96 rfl rfl ?_
  refine X_imul dX12_readsCoat_97 ?_
  refine X_aload_n 0 dX12_readsCoat_98 rfl rfl rfl ?_
  refine X_getPe fl_X12_82 (g_K123 G) rfl (g_P123_25 G) dX12_readsCoat_99 ?_
  refine X_iload_n 1 dX12_readsCoat_102 rfl rfl ?_
  obtain ⟨g8, hm⟩ := og hm
  refine X_ialdJ (g_K148 G) g8 rfl dX12_readsCoat_103 ?_
  refine X_iadd dX12_readsCoat_104 ?_
  refine X_iload_n 2 dX12_readsCoat_105 rfl rfl ?_
  obtain ⟨g9, hm⟩ := og hm
  refine X_iastJ (g_K149 G) g9 rfl dX12_readsCoat_106 ?_
  refine X_aload_n 0 dX12_readsCoat_107 rfl rfl rfl ?_
  refine X_getPe fl_X12_82 (g_K123 G) rfl (g_P123_25 G) dX12_readsCoat_108 ?_
  refine X_iload_n 1 dX12_readsCoat_111 rfl rfl ?_
  refine X_dup2 dX12_readsCoat_112 rfl rfl ?_
  obtain ⟨g10, hm⟩ := og hm
  refine X_ialdJ (g_K148 G) g10 rfl dX12_readsCoat_113 ?_
  refine X_iconst (v := (1 : Int32)) dX12_readsCoat_114 (by decide) ?_
  refine X_iadd dX12_readsCoat_115 ?_
  obtain ⟨g11, hm⟩ := og hm
  refine X_iastJ (g_K148 G) g11 rfl dX12_readsCoat_116 ?_
  cases hm
  exact X_vret dX12_readsCoat_117 rfl
def mX12_readsCoat_48  (e81 : (Nat → Nat → Int32) → Int32 → Int32 → Option ((Nat → Nat → Int32))) : Nat → (Nat → Nat → Int32) → Int32 → Int32 → Int32 → Option ((Nat → Nat → Int32))
  | 0, _, _, _, _ => none
  | f + 1, I, a1, a2, a3 => (if (5 : Int32) ≤ a3 then (e81 I a1 a2) else (if inb (((5 : Int32) * a1) + a3) 80 = true then (if inb ((((5 : Int32) * a1) + a3) - (1 : Int32)) 80 = true then (mX12_readsCoat_48 e81 f (xu I 149 (ix ((((5 : Int32) * a1) + a3) - (1 : Int32))) (I 149 (ix (((5 : Int32) * a1) + a3)))) a1 a2 (a3 + 1)) else none) else none))
set_option maxHeartbeats 400000 in
set_option maxRecDepth 100000 in
theorem kX12_readsCoat_48 {E : xE} {B : Nat} {n : Nat} {K : Nat → Nat × Nat} {P : Nat → Nat → Nat} {L : Nat → Nat → Int64}  {e81 : (Nat → Nat → Int32) → Int32 → Int32 → Option ((Nat → Nat → Int32))} {q : (Nat → Nat → Int32)} (d : Nat) (hd : 4 ≤ d) (G : GW K P)  (he81 : ∀ (I : Nat → Nat → Int32) (a1 : Int32) (a2 : Int32), e81 I a1 a2 = some q → X E B d 0 0 yX12_readsCoat cX12_readsCoat 4 (none : Option Jvm.ClassFile.FieldType) (none, (n, K, P, q, L)) 81 [(0, .ref 123), (1, .int a1), (2, .int a2)] [] 0 0 (n, K, P, I, L)) : ∀ (f : Nat) (I : Nat → Nat → Int32) (a1 : Int32) (a2 : Int32) (a3 : Int32), mX12_readsCoat_48 e81 f I a1 a2 a3 = some q → X E B d 0 0 yX12_readsCoat cX12_readsCoat 4 (none : Option Jvm.ClassFile.FieldType) (none, (n, K, P, q, L)) 48 [(0, .ref 123), (1, .int a1), (2, .int a2), (3, .int a3)] [] 0 0 (n, K, P, I, L) := by
  obtain ⟨d, rfl⟩ : ∃ d0, d = d0 + 1 := ⟨d - 1, by omega⟩
  intro f
  induction f with
  | zero => intro _ _ _ _ hm; exact nomatch (show (none : Option ((Nat → Nat → Int32))) = some q from hm)
  | succ f ih =>
    intro I a1 a2 a3 hm
    rw [mX12_readsCoat_48] at hm
    refine X_iload_n 3 dX12_readsCoat_48 rfl rfl ?_
    refine X_iconst (v := (5 : Int32)) dX12_readsCoat_49 (by decide) ?_
    refine X_icmp_ge (tgt := 81) dX12_readsCoat_50 (by decide) (fun c12 => ?_) (fun c12 => ?_)
    · replace hm := ip c12 hm
      exact X_lv [0, 1, 2] rfl (he81 _ _ _ hm)
    · replace hm := iq c12 hm
      refine X_aload_n 0 dX12_readsCoat_53 rfl rfl rfl ?_
      refine X_getPe fl_X12_85 (g_K123 G) rfl (g_P123_26 G) dX12_readsCoat_54 ?_
      refine X_iconst (v := (5 : Int32)) dX12_readsCoat_57 (by decide) ?_
      refine X_iload_n 1 dX12_readsCoat_58 rfl rfl ?_
      refine X_imul dX12_readsCoat_59 ?_
      refine X_iload_n 3 dX12_readsCoat_60 rfl rfl ?_
      refine X_iadd dX12_readsCoat_61 ?_
      refine X_iconst (v := (1 : Int32)) dX12_readsCoat_62 (by decide) ?_
      refine X_isub dX12_readsCoat_63 ?_
      refine X_aload_n 0 dX12_readsCoat_64 rfl rfl rfl ?_
      refine X_getPe fl_X12_85 (g_K123 G) rfl (g_P123_26 G) dX12_readsCoat_65 ?_
      refine X_iconst (v := (5 : Int32)) dX12_readsCoat_68 (by decide) ?_
      refine X_iload_n 1 dX12_readsCoat_69 rfl rfl ?_
      refine X_imul dX12_readsCoat_70 ?_
      refine X_iload_n 3 dX12_readsCoat_71 rfl rfl ?_
      refine X_iadd dX12_readsCoat_72 ?_
      obtain ⟨g13, hm⟩ := og hm
      refine X_ialdJ (g_K149 G) g13 rfl dX12_readsCoat_73 ?_
      obtain ⟨g14, hm⟩ := og hm
      refine X_iastJ (g_K149 G) g14 rfl dX12_readsCoat_74 ?_
      refine X_iinc (lv' := [(3, .int (a3 + 1)), (0, .ref 123), (1, .int a1), (2, .int a2)]) 3 dX12_readsCoat_75 rfl rfl (by decide) rfl ?_
      refine X_goto (tgt := 48) dX12_readsCoat_78 (by decide) ?_
      exact X_lv [1, 2, 3, 0] rfl (ih _ _ _ _ hm)
def mX12_readsCoat  (I : Nat → Nat → Int32) : Option ((Nat → Nat → Int32)) := (Option.bind (mX12_amount I (0 : Int32) ((I 141 4) - (1 : Int32))) (fun q1 => (Option.bind (mX12_amount q1.2 (0 : Int32) ((q1.2 141 5) - (1 : Int32))) (fun q3 => (if (q3.2 123 29) ≤ 0 then (if inb q1.1 16 = true then (if (q3.2 148 (ix q1.1)) = (5 : Int32) then (mX12_readsCoat_48 (fun (I_15 : (Nat → Nat → Int32)) (a1_15 : Int32) (a2_15 : Int32) => (if inb a1_15 16 = true then (if inb a1_15 16 = true then (mX12_readsCoat_91 (xu I_15 148 (ix a1_15) ((I_15 148 (ix a1_15)) - (1 : Int32))) a1_15 a2_15) else none) else none)) xf q3.2 q1.1 q3.1 (1 : Int32)) else (mX12_readsCoat_91 q3.2 q1.1 q3.1)) else none) else (some q3.2))))))
set_option maxHeartbeats 400000 in
set_option maxRecDepth 100000 in
theorem kX12_readsCoat {E : xE} {B : Nat} {n : Nat} {K : Nat → Nat × Nat} {P : Nat → Nat → Nat} {I : Nat → Nat → Int32} {L : Nat → Nat → Int64}   {q : (Nat → Nat → Int32)} (d : Nat) (hd : 4 ≤ d) (G : GW K P)   (hm : mX12_readsCoat I = some q) : MX E B d 0 0 yX12_readsCoat cX12_readsCoat 4 (none : Option Jvm.ClassFile.FieldType) [.ref 123] (n, K, P, I, L) (none, (n, K, P, q, L)) := by
  refine MX_of (lv := [(0, .ref 123)]) (by decide +kernel) (Nat.le_of_ble_eq_true rfl) rfl ?_
  obtain ⟨d, rfl⟩ : ∃ d0, d = d0 + 1 := ⟨d - 1, by omega⟩
  unfold mX12_readsCoat at hm
  refine X_aload_n 0 dX12_readsCoat_0 rfl rfl rfl ?_
  refine X_iconst (v := (0 : Int32)) dX12_readsCoat_1 (by decide) ?_
  refine X_aload_n 0 dX12_readsCoat_2 rfl rfl rfl ?_
  refine X_getPe fl_X12_61 (g_K123 G) rfl (g_P123_18 G) dX12_readsCoat_3 ?_
  refine X_iconst (v := (4 : Int32)) dX12_readsCoat_6 (by decide) ?_
  refine X_ialdJ (j := 4) (g_K141 G) rfl (by decide) dX12_readsCoat_7 ?_
  refine X_iconst (v := (1 : Int32)) dX12_readsCoat_8 (by decide) ?_
  refine X_isub dX12_readsCoat_9 ?_
  obtain ⟨q1, e2, hm⟩ := ob hm
  refine X_cV1 (ci := 11) (kX12_amount d (by omega) G e2) ml_X12_303 mi_X12_amount rfl cf_11 (g_K123 G) rfl rfl (Nat.le_refl _) ⟨Nat.le_refl _, Nat.le_refl _⟩ (Nat.le_of_ble_eq_true rfl) dX12_readsCoat_10 ?_
  refine X_istore_n (lv' := [(1, .int q1.1), (0, .ref 123)]) dX12_readsCoat_13 rfl (by decide) rfl ?_
  refine X_aload_n 1 dX12_readsCoat_14 rfl rfl rfl ?_
  refine X_iconst (v := (0 : Int32)) dX12_readsCoat_15 (by decide) ?_
  refine X_aload_n 1 dX12_readsCoat_16 rfl rfl rfl ?_
  refine X_getPe fl_X12_61 (g_K123 G) rfl (g_P123_18 G) dX12_readsCoat_17 ?_
  refine X_iconst (v := (5 : Int32)) dX12_readsCoat_20 (by decide) ?_
  refine X_ialdJ (j := 5) (g_K141 G) rfl (by decide) dX12_readsCoat_21 ?_
  refine X_iconst (v := (1 : Int32)) dX12_readsCoat_22 (by decide) ?_
  refine X_isub dX12_readsCoat_23 ?_
  obtain ⟨q3, e4, hm⟩ := ob hm
  refine X_cV1 (ci := 11) (kX12_amount d (by omega) G e4) ml_X12_303 mi_X12_amount rfl cf_11 (g_K123 G) rfl rfl (Nat.le_refl _) ⟨Nat.le_refl _, Nat.le_refl _⟩ (Nat.le_of_ble_eq_true rfl) dX12_readsCoat_24 ?_
  refine X_istore_n (lv' := [(2, .int q3.1), (1, .int q1.1), (0, .ref 123)]) dX12_readsCoat_27 rfl (by decide) rfl ?_
  refine X_aload_n 2 dX12_readsCoat_28 rfl rfl rfl ?_
  refine X_getI fl_X12_199 (g_K123 G) rfl dX12_readsCoat_29 ?_
  refine X_if_le (tgt := 36) dX12_readsCoat_32 (by decide) (fun c5 => ?_) (fun c5 => ?_)
  · replace hm := ip c5 hm
    refine X_aload_n 2 dX12_readsCoat_36 rfl rfl rfl ?_
    refine X_getPe fl_X12_82 (g_K123 G) rfl (g_P123_25 G) dX12_readsCoat_37 ?_
    refine X_iload_n 1 dX12_readsCoat_40 rfl rfl ?_
    obtain ⟨g6, hm⟩ := og hm
    refine X_ialdJ (g_K148 G) g6 rfl dX12_readsCoat_41 ?_
    refine X_iconst (v := (5 : Int32)) dX12_readsCoat_42 (by decide) ?_
    refine X_icmp_ne (tgt := 91) dX12_readsCoat_43 (by decide) (fun c7 => ?_) (fun c7 => ?_)
    · replace hm := iq c7 hm
      exact X_lv [2, 1, 0] rfl (kX12_readsCoat_91 _ hd G hm)
    · replace hm := ip c7 hm
      refine X_iconst (v := (1 : Int32)) dX12_readsCoat_46 (by decide) ?_
      refine X_istore_n (lv' := [(3, .int (1 : Int32)), (2, .int q3.1), (1, .int q1.1), (0, .ref 123)]) dX12_readsCoat_47 rfl (by decide) rfl ?_
      refine X_lv [3, 2, 1, 0] rfl (kX12_readsCoat_48 _ hd G (fun I_15 a1_15 a2_15 hm => ?_) xf _ _ _ _  hm)
      refine X_aload_n 0 dX12_readsCoat_81 rfl rfl rfl ?_
      refine X_getPe fl_X12_82 (g_K123 G) rfl (g_P123_25 G) dX12_readsCoat_82 ?_
      refine X_iload_n 1 dX12_readsCoat_85 rfl rfl ?_
      refine X_dup2 dX12_readsCoat_86 rfl rfl ?_
      obtain ⟨g16, hm⟩ := og hm
      refine X_ialdJ (g_K148 G) g16 rfl dX12_readsCoat_87 ?_
      refine X_iconst (v := (1 : Int32)) dX12_readsCoat_88 (by decide) ?_
      refine X_isub dX12_readsCoat_89 ?_
      obtain ⟨g17, hm⟩ := og hm
      refine X_iastJ (g_K148 G) g17 rfl dX12_readsCoat_90 ?_
      exact kX12_readsCoat_91 _ hd G hm
  · replace hm := iq c5 hm
    cases hm
    exact X_vret dX12_readsCoat_35 rfl
def mX12_streetPart  (I : Nat → Nat → Int32) (a1 : Int32) : Option ((Nat → Nat → Int32)) := (if a1 = (0 : Int32) then (Option.bind (mX12_amount I (1 : Int32) (9 : Int32)) (fun q2 => (Option.bind (mX12_amount (xu q2.2 141 0 q2.1) (1 : Int32) (100 : Int32)) (fun q4 => (Option.bind (mX12_amount (xu q4.2 141 1 q4.1) (0 : Int32) (9 : Int32)) (fun q6 => (some (xu q6.2 141 2 q6.1)))))))) else (if a1 = (1 : Int32) then (Option.bind (mX12_readsThing I) (fun q9 => (some q9))) else (if a1 = (2 : Int32) then (Option.bind (mX12_amount I (0 : Int32) (8 : Int32)) (fun q12 => (if inb (I 141 5) 4 = true then (Option.bind (mX12_amount (xu q12.2 144 (ix (I 141 5)) q12.1) (0 : Int32) (99 : Int32)) (fun q15 => (if inb (I 141 5) 4 = true then (some (xu (xu q15.2 145 (ix (I 141 5)) q15.1) 141 5 (((xu q15.2 145 (ix (I 141 5)) q15.1) 141 5) + (1 : Int32)))) else none))) else none))) else (if a1 = (3 : Int32) then (Option.bind (mX12_readsCoat I) (fun q19 => (some q19))) else (if a1 = (4 : Int32) then (Option.bind (mX12_amount I (0 : Int32) ((I 141 3) - (1 : Int32))) (fun q22 => (if (q22.2 123 29) = 0 then (some (xu q22.2 141 8 ((q22.2 141 8) ||| (xshl (1 : Int32) q22.1)))) else (some (xu q22.2 141 8 ((q22.2 141 8) ||| (0 : Int32))))))) else (if a1 = (5 : Int32) then (Option.bind (mX12_amount I (0 : Int32) (199 : Int32)) (fun q26 => (if inb (I 141 7) 5 = true then (if inb (I 141 7) 5 = true then (Option.bind (mX12_amount (xu q26.2 146 (ix (I 141 7)) q26.1) ((xu q26.2 146 (ix (I 141 7)) q26.1) 146 (ix (I 141 7))) (199 : Int32)) (fun q30 => (if inb (I 141 7) 5 = true then (some (xu (xu q30.2 147 (ix (I 141 7)) q30.1) 141 7 (((xu q30.2 147 (ix (I 141 7)) q30.1) 141 7) + (1 : Int32)))) else none))) else none) else none))) else (some (xu I 141 6 (1 : Int32)))))))))
set_option maxHeartbeats 400000 in
set_option maxRecDepth 100000 in
theorem kX12_streetPart {E : xE} {B : Nat} {n : Nat} {K : Nat → Nat × Nat} {P : Nat → Nat → Nat} {I : Nat → Nat → Int32} {L : Nat → Nat → Int64}  {a1 : Int32} {q : (Nat → Nat → Int32)} (d : Nat) (hd : 5 ≤ d) (G : GW K P)   (hm : mX12_streetPart I a1 = some q) : MX E B d 0 0 yX12_streetPart cX12_streetPart 3 (none : Option Jvm.ClassFile.FieldType) [.ref 123, .int a1] (n, K, P, I, L) (none, (n, K, P, q, L)) := by
  refine MX_of (lv := [(0, .ref 123), (1, .int a1)]) (by decide +kernel) (Nat.le_of_ble_eq_true rfl) rfl ?_
  obtain ⟨d, rfl⟩ : ∃ d0, d = d0 + 1 := ⟨d - 1, by omega⟩
  unfold mX12_streetPart at hm
  refine X_iload_n 1 dX12_streetPart_0 rfl rfl ?_
  rcases Decidable.em (a1 = (0 : Int32)) with c1 | c1
  · replace hm := ip c1 hm
    refine X_swK (off := 39) (tgt := 40) c1 dX12_streetPart_1 (by decide) (by decide) (by decide) (by decide) ?_
    refine X_aload_n 0 dX12_streetPart_40 rfl rfl rfl ?_
    refine X_getPe fl_X12_61 (g_K123 G) rfl (g_P123_18 G) dX12_streetPart_41 ?_
    refine X_iconst (v := (0 : Int32)) dX12_streetPart_44 (by decide) ?_
    refine X_aload_n 0 dX12_streetPart_45 rfl rfl rfl ?_
    refine X_iconst (v := (1 : Int32)) dX12_streetPart_46 (by decide) ?_
    refine X_bipush (v := (9 : Int32)) dX12_streetPart_47 (by decide) ?_
    obtain ⟨q2, e3, hm⟩ := ob hm
    refine X_cV1 (ci := 11) (kX12_amount d (by omega) G e3) ml_X12_303 mi_X12_amount rfl cf_11 (g_K123 G) rfl rfl (Nat.le_refl _) ⟨Nat.le_refl _, Nat.le_refl _⟩ (Nat.le_of_ble_eq_true rfl) dX12_streetPart_49 ?_
    refine X_iastJ (j := 0) (g_K141 G) rfl (by decide) dX12_streetPart_52 ?_
    refine X_aload_n 0 dX12_streetPart_53 rfl rfl rfl ?_
    refine X_getPe fl_X12_61 (g_K123 G) rfl (g_P123_18 G) dX12_streetPart_54 ?_
    refine X_iconst (v := (1 : Int32)) dX12_streetPart_57 (by decide) ?_
    refine X_aload_n 0 dX12_streetPart_58 rfl rfl rfl ?_
    refine X_iconst (v := (1 : Int32)) dX12_streetPart_59 (by decide) ?_
    refine X_bipush (v := (100 : Int32)) dX12_streetPart_60 (by decide) ?_
    obtain ⟨q4, e5, hm⟩ := ob hm
    refine X_cV1 (ci := 11) (kX12_amount d (by omega) G e5) ml_X12_303 mi_X12_amount rfl cf_11 (g_K123 G) rfl rfl (Nat.le_refl _) ⟨Nat.le_refl _, Nat.le_refl _⟩ (Nat.le_of_ble_eq_true rfl) dX12_streetPart_62 ?_
    refine X_iastJ (j := 1) (g_K141 G) rfl (by decide) dX12_streetPart_65 ?_
    refine X_aload_n 0 dX12_streetPart_66 rfl rfl rfl ?_
    refine X_getPe fl_X12_61 (g_K123 G) rfl (g_P123_18 G) dX12_streetPart_67 ?_
    refine X_iconst (v := (2 : Int32)) dX12_streetPart_70 (by decide) ?_
    refine X_aload_n 0 dX12_streetPart_71 rfl rfl rfl ?_
    refine X_iconst (v := (0 : Int32)) dX12_streetPart_72 (by decide) ?_
    refine X_bipush (v := (9 : Int32)) dX12_streetPart_73 (by decide) ?_
    obtain ⟨q6, e7, hm⟩ := ob hm
    refine X_cV1 (ci := 11) (kX12_amount d (by omega) G e7) ml_X12_303 mi_X12_amount rfl cf_11 (g_K123 G) rfl rfl (Nat.le_refl _) ⟨Nat.le_refl _, Nat.le_refl _⟩ (Nat.le_of_ble_eq_true rfl) dX12_streetPart_75 ?_
    refine X_iastJ (j := 2) (g_K141 G) rfl (by decide) dX12_streetPart_78 ?_
    refine X_goto (tgt := 246) dX12_streetPart_79 (by decide) ?_
    cases hm
    exact X_vret dX12_streetPart_246 rfl
  · replace hm := iq c1 hm
    rcases Decidable.em (a1 = (1 : Int32)) with c8 | c8
    · replace hm := ip c8 hm
      refine X_swK (off := 81) (tgt := 82) c8 dX12_streetPart_1 (by decide) (by decide) (by decide) (by decide) ?_
      refine X_aload_n 0 dX12_streetPart_82 rfl rfl rfl ?_
      obtain ⟨q9, e10, hm⟩ := ob hm
      refine X_cV0 (ci := 11) (kX12_readsThing d (by omega) G e10) ml_X12_307 mi_X12_readsThing rfl cf_11 (g_K123 G) rfl rfl (Nat.le_refl _) ⟨Nat.le_refl _, Nat.le_refl _⟩ (Nat.le_of_ble_eq_true rfl) dX12_streetPart_83 ?_
      refine X_goto (tgt := 246) dX12_streetPart_86 (by decide) ?_
      cases hm
      exact X_vret dX12_streetPart_246 rfl
    · replace hm := iq c8 hm
      rcases Decidable.em (a1 = (2 : Int32)) with c11 | c11
      · replace hm := ip c11 hm
        refine X_swK (off := 88) (tgt := 89) c11 dX12_streetPart_1 (by decide) (by decide) (by decide) (by decide) ?_
        refine X_aload_n 0 dX12_streetPart_89 rfl rfl rfl ?_
        refine X_getPe fl_X12_61 (g_K123 G) rfl (g_P123_18 G) dX12_streetPart_90 ?_
        refine X_iconst (v := (5 : Int32)) dX12_streetPart_93 (by decide) ?_
        refine X_ialdJ (j := 5) (g_K141 G) rfl (by decide) dX12_streetPart_94 ?_
        refine X_istore_n (lv' := [(2, .int (I 141 5)), (0, .ref 123), (1, .int a1)]) dX12_streetPart_95 rfl (by decide) rfl ?_
        refine X_aload_n 1 dX12_streetPart_96 rfl rfl rfl ?_
        refine X_getPe fl_X12_70 (g_K123 G) rfl (g_P123_21 G) dX12_streetPart_97 ?_
        refine X_iload_n 0 dX12_streetPart_100 rfl rfl ?_
        refine X_aload_n 1 dX12_streetPart_101 rfl rfl rfl ?_
        refine X_iconst (v := (0 : Int32)) dX12_streetPart_102 (by decide) ?_
        refine X_bipush (v := (8 : Int32)) dX12_streetPart_103 (by decide) ?_
        obtain ⟨q12, e13, hm⟩ := ob hm
        refine X_cV1 (ci := 11) (kX12_amount d (by omega) G e13) ml_X12_303 mi_X12_amount rfl cf_11 (g_K123 G) rfl rfl (Nat.le_refl _) ⟨Nat.le_refl _, Nat.le_refl _⟩ (Nat.le_of_ble_eq_true rfl) dX12_streetPart_105 ?_
        obtain ⟨g14, hm⟩ := og hm
        refine X_iastJ (g_K144 G) g14 rfl dX12_streetPart_108 ?_
        refine X_aload_n 1 dX12_streetPart_109 rfl rfl rfl ?_
        refine X_getPe fl_X12_73 (g_K123 G) rfl (g_P123_22 G) dX12_streetPart_110 ?_
        refine X_iload_n 0 dX12_streetPart_113 rfl rfl ?_
        refine X_aload_n 1 dX12_streetPart_114 rfl rfl rfl ?_
        refine X_iconst (v := (0 : Int32)) dX12_streetPart_115 (by decide) ?_
        refine X_bipush (v := (99 : Int32)) dX12_streetPart_116 (by decide) ?_
        obtain ⟨q15, e16, hm⟩ := ob hm
        refine X_cV1 (ci := 11) (kX12_amount d (by omega) G e16) ml_X12_303 mi_X12_amount rfl cf_11 (g_K123 G) rfl rfl (Nat.le_refl _) ⟨Nat.le_refl _, Nat.le_refl _⟩ (Nat.le_of_ble_eq_true rfl) dX12_streetPart_118 ?_
        obtain ⟨g17, hm⟩ := og hm
        refine X_iastJ (g_K145 G) g17 rfl dX12_streetPart_121 ?_
        refine X_aload_n 1 dX12_streetPart_122 rfl rfl rfl ?_
        refine X_getPe fl_X12_61 (g_K123 G) rfl (g_P123_18 G) dX12_streetPart_123 ?_
        refine X_iconst (v := (5 : Int32)) dX12_streetPart_126 (by decide) ?_
        refine X_dup2 dX12_streetPart_127 rfl rfl ?_
        refine X_ialdJ (j := 5) (g_K141 G) rfl (by decide) dX12_streetPart_128 ?_
        refine X_iconst (v := (1 : Int32)) dX12_streetPart_129 (by decide) ?_
        refine X_iadd dX12_streetPart_130 ?_
        refine X_iastJ (j := 5) (g_K141 G) rfl (by decide) dX12_streetPart_131 ?_
        refine X_goto (tgt := 246) dX12_streetPart_132 (by decide) ?_
        cases hm
        exact X_vret dX12_streetPart_246 rfl
      · replace hm := iq c11 hm
        rcases Decidable.em (a1 = (3 : Int32)) with c18 | c18
        · replace hm := ip c18 hm
          refine X_swK (off := 134) (tgt := 135) c18 dX12_streetPart_1 (by decide) (by decide) (by decide) (by decide) ?_
          refine X_aload_n 0 dX12_streetPart_135 rfl rfl rfl ?_
          obtain ⟨q19, e20, hm⟩ := ob hm
          refine X_cV0 (ci := 11) (kX12_readsCoat d (by omega) G e20) ml_X12_310 mi_X12_readsCoat rfl cf_11 (g_K123 G) rfl rfl (Nat.le_refl _) ⟨Nat.le_refl _, Nat.le_refl _⟩ (Nat.le_of_ble_eq_true rfl) dX12_streetPart_136 ?_
          refine X_goto (tgt := 246) dX12_streetPart_139 (by decide) ?_
          cases hm
          exact X_vret dX12_streetPart_246 rfl
        · replace hm := iq c18 hm
          rcases Decidable.em (a1 = (4 : Int32)) with c21 | c21
          · replace hm := ip c21 hm
            refine X_swK (off := 141) (tgt := 142) c21 dX12_streetPart_1 (by decide) (by decide) (by decide) (by decide) ?_
            refine X_aload_n 0 dX12_streetPart_142 rfl rfl rfl ?_
            refine X_iconst (v := (0 : Int32)) dX12_streetPart_143 (by decide) ?_
            refine X_aload_n 0 dX12_streetPart_144 rfl rfl rfl ?_
            refine X_getPe fl_X12_61 (g_K123 G) rfl (g_P123_18 G) dX12_streetPart_145 ?_
            refine X_iconst (v := (3 : Int32)) dX12_streetPart_148 (by decide) ?_
            refine X_ialdJ (j := 3) (g_K141 G) rfl (by decide) dX12_streetPart_149 ?_
            refine X_iconst (v := (1 : Int32)) dX12_streetPart_150 (by decide) ?_
            refine X_isub dX12_streetPart_151 ?_
            obtain ⟨q22, e23, hm⟩ := ob hm
            refine X_cV1 (ci := 11) (kX12_amount d (by omega) G e23) ml_X12_303 mi_X12_amount rfl cf_11 (g_K123 G) rfl rfl (Nat.le_refl _) ⟨Nat.le_refl _, Nat.le_refl _⟩ (Nat.le_of_ble_eq_true rfl) dX12_streetPart_152 ?_
            refine X_istore_n (lv' := [(2, .int q22.1), (0, .ref 123), (1, .int a1)]) dX12_streetPart_155 rfl (by decide) rfl ?_
            refine X_aload_n 1 dX12_streetPart_156 rfl rfl rfl ?_
            refine X_getPe fl_X12_61 (g_K123 G) rfl (g_P123_18 G) dX12_streetPart_157 ?_
            refine X_bipush (v := (8 : Int32)) dX12_streetPart_160 (by decide) ?_
            refine X_dup2 dX12_streetPart_162 rfl rfl ?_
            refine X_ialdJ (j := 8) (g_K141 G) rfl (by decide) dX12_streetPart_163 ?_
            refine X_aload_n 1 dX12_streetPart_164 rfl rfl rfl ?_
            refine X_getI fl_X12_199 (g_K123 G) rfl dX12_streetPart_165 ?_
            refine X_if_ne (tgt := 177) dX12_streetPart_168 (by decide) (fun c24 => ?_) (fun c24 => ?_)
            · replace hm := iq c24 hm
              refine X_iconst (v := (0 : Int32)) dX12_streetPart_177 (by decide) ?_
              refine X_ior dX12_streetPart_178 ?_
              refine X_iastJ (j := 8) (g_K141 G) rfl (by decide) dX12_streetPart_179 ?_
              refine X_goto (tgt := 246) dX12_streetPart_180 (by decide) ?_
              cases hm
              exact X_vret dX12_streetPart_246 rfl
            · replace hm := ip c24 hm
              refine X_iconst (v := (1 : Int32)) dX12_streetPart_171 (by decide) ?_
              refine X_iload_n 0 dX12_streetPart_172 rfl rfl ?_
              refine X_ishl dX12_streetPart_173 ?_
              refine X_goto (tgt := 178) dX12_streetPart_174 (by decide) ?_
              refine X_ior dX12_streetPart_178 ?_
              refine X_iastJ (j := 8) (g_K141 G) rfl (by decide) dX12_streetPart_179 ?_
              refine X_goto (tgt := 246) dX12_streetPart_180 (by decide) ?_
              cases hm
              exact X_vret dX12_streetPart_246 rfl
          · replace hm := iq c21 hm
            rcases Decidable.em (a1 = (5 : Int32)) with c25 | c25
            · replace hm := ip c25 hm
              refine X_swK (off := 182) (tgt := 183) c25 dX12_streetPart_1 (by decide) (by decide) (by decide) (by decide) ?_
              refine X_aload_n 0 dX12_streetPart_183 rfl rfl rfl ?_
              refine X_getPe fl_X12_61 (g_K123 G) rfl (g_P123_18 G) dX12_streetPart_184 ?_
              refine X_bipush (v := (7 : Int32)) dX12_streetPart_187 (by decide) ?_
              refine X_ialdJ (j := 7) (g_K141 G) rfl (by decide) dX12_streetPart_189 ?_
              refine X_istore_n (lv' := [(2, .int (I 141 7)), (0, .ref 123), (1, .int a1)]) dX12_streetPart_190 rfl (by decide) rfl ?_
              refine X_aload_n 1 dX12_streetPart_191 rfl rfl rfl ?_
              refine X_getPe fl_X12_76 (g_K123 G) rfl (g_P123_23 G) dX12_streetPart_192 ?_
              refine X_iload_n 0 dX12_streetPart_195 rfl rfl ?_
              refine X_aload_n 1 dX12_streetPart_196 rfl rfl rfl ?_
              refine X_iconst (v := (0 : Int32)) dX12_streetPart_197 (by decide) ?_
              refine X_sipush (v := (199 : Int32)) dX12_streetPart_198 (by decide) ?_
              obtain ⟨q26, e27, hm⟩ := ob hm
              refine X_cV1 (ci := 11) (kX12_amount d (by omega) G e27) ml_X12_303 mi_X12_amount rfl cf_11 (g_K123 G) rfl rfl (Nat.le_refl _) ⟨Nat.le_refl _, Nat.le_refl _⟩ (Nat.le_of_ble_eq_true rfl) dX12_streetPart_201 ?_
              obtain ⟨g28, hm⟩ := og hm
              refine X_iastJ (g_K146 G) g28 rfl dX12_streetPart_204 ?_
              refine X_aload_n 1 dX12_streetPart_205 rfl rfl rfl ?_
              refine X_getPe fl_X12_79 (g_K123 G) rfl (g_P123_24 G) dX12_streetPart_206 ?_
              refine X_iload_n 0 dX12_streetPart_209 rfl rfl ?_
              refine X_aload_n 1 dX12_streetPart_210 rfl rfl rfl ?_
              refine X_aload_n 1 dX12_streetPart_211 rfl rfl rfl ?_
              refine X_getPe fl_X12_76 (g_K123 G) rfl (g_P123_23 G) dX12_streetPart_212 ?_
              refine X_iload_n 0 dX12_streetPart_215 rfl rfl ?_
              obtain ⟨g29, hm⟩ := og hm
              refine X_ialdJ (g_K146 G) g29 rfl dX12_streetPart_216 ?_
              refine X_sipush (v := (199 : Int32)) dX12_streetPart_217 (by decide) ?_
              obtain ⟨q30, e31, hm⟩ := ob hm
              refine X_cV1 (ci := 11) (kX12_amount d (by omega) G e31) ml_X12_303 mi_X12_amount rfl cf_11 (g_K123 G) rfl rfl (Nat.le_refl _) ⟨Nat.le_refl _, Nat.le_refl _⟩ (Nat.le_of_ble_eq_true rfl) dX12_streetPart_220 ?_
              obtain ⟨g32, hm⟩ := og hm
              refine X_iastJ (g_K147 G) g32 rfl dX12_streetPart_223 ?_
              refine X_aload_n 1 dX12_streetPart_224 rfl rfl rfl ?_
              refine X_getPe fl_X12_61 (g_K123 G) rfl (g_P123_18 G) dX12_streetPart_225 ?_
              refine X_bipush (v := (7 : Int32)) dX12_streetPart_228 (by decide) ?_
              refine X_dup2 dX12_streetPart_230 rfl rfl ?_
              refine X_ialdJ (j := 7) (g_K141 G) rfl (by decide) dX12_streetPart_231 ?_
              refine X_iconst (v := (1 : Int32)) dX12_streetPart_232 (by decide) ?_
              refine X_iadd dX12_streetPart_233 ?_
              refine X_iastJ (j := 7) (g_K141 G) rfl (by decide) dX12_streetPart_234 ?_
              refine X_goto (tgt := 246) dX12_streetPart_235 (by decide) ?_
              cases hm
              exact X_vret dX12_streetPart_246 rfl
            · replace hm := iq c25 hm
              refine X_tableOut (tgt := 238) dX12_streetPart_1 (sw_out 6 (by decide) (fun i hi => by
                have hi2 : i = 0 ∨ i = 1 ∨ i = 2 ∨ i = 3 ∨ i = 4 ∨ i = 5 := by omega
                rcases hi2 with rfl | rfl | rfl | rfl | rfl | rfl
                · exact c1
                · exact c8
                · exact c11
                · exact c18
                · exact c21
                · exact c25)) (by decide) ?_
              refine X_aload_n 0 dX12_streetPart_238 rfl rfl rfl ?_
              refine X_getPe fl_X12_61 (g_K123 G) rfl (g_P123_18 G) dX12_streetPart_239 ?_
              refine X_bipush (v := (6 : Int32)) dX12_streetPart_242 (by decide) ?_
              refine X_iconst (v := (1 : Int32)) dX12_streetPart_244 (by decide) ?_
              refine X_iastJ (j := 6) (g_K141 G) rfl (by decide) dX12_streetPart_245 ?_
              cases hm
              exact X_vret dX12_streetPart_246 rfl
def mX12_isFull_24 (I : Nat → Nat → Int32) (a1 : Int32) (t0 : Int32) (t1 : Int32) : Option (Int32) := (if t1 = t0 then (if a1 = (1 : Int32) then (if (I 141 3) = (4 : Int32) then (some (1 : Int32)) else (some (0 : Int32))) else (if a1 = (2 : Int32) then (if (I 141 5) = (4 : Int32) then (some (1 : Int32)) else (some (0 : Int32))) else (if a1 = (3 : Int32) then (some (0 : Int32)) else (if a1 = (4 : Int32) then (some (0 : Int32)) else (if a1 = (5 : Int32) then (if (I 141 7) = (5 : Int32) then (some (1 : Int32)) else (some (0 : Int32))) else (if a1 = (6 : Int32) then (if (I 141 6) = (1 : Int32) then (some (1 : Int32)) else (some (0 : Int32))) else (some (0 : Int32)))))))) else (some (1 : Int32)))
set_option maxHeartbeats 400000 in
set_option maxRecDepth 100000 in
theorem kX12_isFull_24 {E : xE} {B : Nat} {n : Nat} {K : Nat → Nat × Nat} {P : Nat → Nat → Nat} {I : Nat → Nat → Int32} {L : Nat → Nat → Int64}   {a1 : Int32} {t0 : Int32} {t1 : Int32} {q : Int32} (d : Nat) (hd : 0 ≤ d) (G : GW K P)    (hm : mX12_isFull_24 I a1 t0 t1 = some q) : X E B d 0 0 yX12_isFull cX12_isFull 3 (some .boolean) (some (.int q), (n, K, P, I, L)) 24 [(0, .ref 123), (1, .int a1)] [.int t0, .int t1] 0 0 (n, K, P, I, L) := by
  unfold mX12_isFull_24 at hm
  refine X_icmp_eq (tgt := 29) dX12_isFull_24 (by decide) (fun c4 => ?_) (fun c4 => ?_)
  · replace hm := ip c4 hm
    refine X_iload_n 1 dX12_isFull_29 rfl rfl ?_
    rcases Decidable.em (a1 = (1 : Int32)) with c5 | c5
    · replace hm := ip c5 hm
      refine X_swK (off := 38) (tgt := 68) c5 dX12_isFull_30 (by decide) (by decide) (by decide) (by decide) ?_
      refine X_aload_n 0 dX12_isFull_68 rfl rfl rfl ?_
      refine X_getPe fl_X12_61 (g_K123 G) rfl (g_P123_18 G) dX12_isFull_69 ?_
      refine X_iconst (v := (3 : Int32)) dX12_isFull_72 (by decide) ?_
      refine X_ialdJ (j := 3) (g_K141 G) rfl (by decide) dX12_isFull_73 ?_
      refine X_iconst (v := (4 : Int32)) dX12_isFull_74 (by decide) ?_
      refine X_icmp_ne (tgt := 82) dX12_isFull_75 (by decide) (fun c6 => ?_) (fun c6 => ?_)
      · replace hm := iq c6 hm
        refine X_iconst (v := (0 : Int32)) dX12_isFull_82 (by decide) ?_
        cases hm
        exact X_zret (v := (0 : Int32)) dX12_isFull_83 rfl (x_nz (Or.inl rfl))
      · replace hm := ip c6 hm
        refine X_iconst (v := (1 : Int32)) dX12_isFull_78 (by decide) ?_
        refine X_goto (tgt := 83) dX12_isFull_79 (by decide) ?_
        cases hm
        exact X_zret (v := (1 : Int32)) dX12_isFull_83 rfl (x_nz (Or.inr rfl))
    · replace hm := iq c5 hm
      rcases Decidable.em (a1 = (2 : Int32)) with c7 | c7
      · replace hm := ip c7 hm
        refine X_swK (off := 54) (tgt := 84) c7 dX12_isFull_30 (by decide) (by decide) (by decide) (by decide) ?_
        refine X_aload_n 0 dX12_isFull_84 rfl rfl rfl ?_
        refine X_getPe fl_X12_61 (g_K123 G) rfl (g_P123_18 G) dX12_isFull_85 ?_
        refine X_iconst (v := (5 : Int32)) dX12_isFull_88 (by decide) ?_
        refine X_ialdJ (j := 5) (g_K141 G) rfl (by decide) dX12_isFull_89 ?_
        refine X_iconst (v := (4 : Int32)) dX12_isFull_90 (by decide) ?_
        refine X_icmp_ne (tgt := 98) dX12_isFull_91 (by decide) (fun c8 => ?_) (fun c8 => ?_)
        · replace hm := iq c8 hm
          refine X_iconst (v := (0 : Int32)) dX12_isFull_98 (by decide) ?_
          cases hm
          exact X_zret (v := (0 : Int32)) dX12_isFull_99 rfl (x_nz (Or.inl rfl))
        · replace hm := ip c8 hm
          refine X_iconst (v := (1 : Int32)) dX12_isFull_94 (by decide) ?_
          refine X_goto (tgt := 99) dX12_isFull_95 (by decide) ?_
          cases hm
          exact X_zret (v := (1 : Int32)) dX12_isFull_99 rfl (x_nz (Or.inr rfl))
      · replace hm := iq c7 hm
        rcases Decidable.em (a1 = (3 : Int32)) with c9 | c9
        · replace hm := ip c9 hm
          refine X_swK (off := 104) (tgt := 134) c9 dX12_isFull_30 (by decide) (by decide) (by decide) (by decide) ?_
          refine X_iconst (v := (0 : Int32)) dX12_isFull_134 (by decide) ?_
          cases hm
          exact X_zret (v := (0 : Int32)) dX12_isFull_135 rfl (x_nz (Or.inl rfl))
        · replace hm := iq c9 hm
          rcases Decidable.em (a1 = (4 : Int32)) with c10 | c10
          · replace hm := ip c10 hm
            refine X_swK (off := 104) (tgt := 134) c10 dX12_isFull_30 (by decide) (by decide) (by decide) (by decide) ?_
            refine X_iconst (v := (0 : Int32)) dX12_isFull_134 (by decide) ?_
            cases hm
            exact X_zret (v := (0 : Int32)) dX12_isFull_135 rfl (x_nz (Or.inl rfl))
          · replace hm := iq c10 hm
            rcases Decidable.em (a1 = (5 : Int32)) with c11 | c11
            · replace hm := ip c11 hm
              refine X_swK (off := 70) (tgt := 100) c11 dX12_isFull_30 (by decide) (by decide) (by decide) (by decide) ?_
              refine X_aload_n 0 dX12_isFull_100 rfl rfl rfl ?_
              refine X_getPe fl_X12_61 (g_K123 G) rfl (g_P123_18 G) dX12_isFull_101 ?_
              refine X_bipush (v := (7 : Int32)) dX12_isFull_104 (by decide) ?_
              refine X_ialdJ (j := 7) (g_K141 G) rfl (by decide) dX12_isFull_106 ?_
              refine X_iconst (v := (5 : Int32)) dX12_isFull_107 (by decide) ?_
              refine X_icmp_ne (tgt := 115) dX12_isFull_108 (by decide) (fun c12 => ?_) (fun c12 => ?_)
              · replace hm := iq c12 hm
                refine X_iconst (v := (0 : Int32)) dX12_isFull_115 (by decide) ?_
                cases hm
                exact X_zret (v := (0 : Int32)) dX12_isFull_116 rfl (x_nz (Or.inl rfl))
              · replace hm := ip c12 hm
                refine X_iconst (v := (1 : Int32)) dX12_isFull_111 (by decide) ?_
                refine X_goto (tgt := 116) dX12_isFull_112 (by decide) ?_
                cases hm
                exact X_zret (v := (1 : Int32)) dX12_isFull_116 rfl (x_nz (Or.inr rfl))
            · replace hm := iq c11 hm
              rcases Decidable.em (a1 = (6 : Int32)) with c13 | c13
              · replace hm := ip c13 hm
                refine X_swK (off := 87) (tgt := 117) c13 dX12_isFull_30 (by decide) (by decide) (by decide) (by decide) ?_
                refine X_aload_n 0 dX12_isFull_117 rfl rfl rfl ?_
                refine X_getPe fl_X12_61 (g_K123 G) rfl (g_P123_18 G) dX12_isFull_118 ?_
                refine X_bipush (v := (6 : Int32)) dX12_isFull_121 (by decide) ?_
                refine X_ialdJ (j := 6) (g_K141 G) rfl (by decide) dX12_isFull_123 ?_
                refine X_iconst (v := (1 : Int32)) dX12_isFull_124 (by decide) ?_
                refine X_icmp_ne (tgt := 132) dX12_isFull_125 (by decide) (fun c14 => ?_) (fun c14 => ?_)
                · replace hm := iq c14 hm
                  refine X_iconst (v := (0 : Int32)) dX12_isFull_132 (by decide) ?_
                  cases hm
                  exact X_zret (v := (0 : Int32)) dX12_isFull_133 rfl (x_nz (Or.inl rfl))
                · replace hm := ip c14 hm
                  refine X_iconst (v := (1 : Int32)) dX12_isFull_128 (by decide) ?_
                  refine X_goto (tgt := 133) dX12_isFull_129 (by decide) ?_
                  cases hm
                  exact X_zret (v := (1 : Int32)) dX12_isFull_133 rfl (x_nz (Or.inr rfl))
              · replace hm := iq c13 hm
                refine X_tableOut (tgt := 134) dX12_isFull_30 (sw_out 6 (by decide) (fun i hi => by
                  have hi2 : i = 0 ∨ i = 1 ∨ i = 2 ∨ i = 3 ∨ i = 4 ∨ i = 5 := by omega
                  rcases hi2 with rfl | rfl | rfl | rfl | rfl | rfl
                  · exact c5
                  · exact c7
                  · exact c9
                  · exact c10
                  · exact c11
                  · exact c13)) (by decide) ?_
                refine X_iconst (v := (0 : Int32)) dX12_isFull_134 (by decide) ?_
                cases hm
                exact X_zret (v := (0 : Int32)) dX12_isFull_135 rfl (x_nz (Or.inl rfl))
  · replace hm := iq c4 hm
    refine X_iconst (v := (1 : Int32)) dX12_isFull_27 (by decide) ?_
    cases hm
    exact X_zret (v := (1 : Int32)) dX12_isFull_28 rfl (x_nz (Or.inr rfl))
def mX12_isFull_15 (I : Nat → Nat → Int32) (a1 : Int32) (a2 : Int32) (t0 : Int32) : Option (Int32) := (if a2 = 0 then (mX12_isFull_24 I a1 (1 : Int32) t0) else (mX12_isFull_24 I a1 (0 : Int32) t0))
set_option maxHeartbeats 400000 in
set_option maxRecDepth 100000 in
theorem kX12_isFull_15 {E : xE} {B : Nat} {n : Nat} {K : Nat → Nat × Nat} {P : Nat → Nat → Nat} {I : Nat → Nat → Int32} {L : Nat → Nat → Int64}   {a1 : Int32} {a2 : Int32} {t0 : Int32} {q : Int32} (d : Nat) (hd : 0 ≤ d) (G : GW K P)    (hm : mX12_isFull_15 I a1 a2 t0 = some q) : X E B d 0 0 yX12_isFull cX12_isFull 3 (some .boolean) (some (.int q), (n, K, P, I, L)) 15 [(0, .ref 123), (1, .int a1), (2, .int a2)] [.int t0] 0 0 (n, K, P, I, L) := by
  unfold mX12_isFull_15 at hm
  refine X_iload_n 2 dX12_isFull_15 rfl rfl ?_
  refine X_if_ne (tgt := 23) dX12_isFull_16 (by decide) (fun c3 => ?_) (fun c3 => ?_)
  · replace hm := iq c3 hm
    refine X_iconst (v := (0 : Int32)) dX12_isFull_23 (by decide) ?_
    exact X_lv [0, 1] rfl (kX12_isFull_24 _ hd G hm)
  · replace hm := ip c3 hm
    refine X_iconst (v := (1 : Int32)) dX12_isFull_19 (by decide) ?_
    refine X_goto (tgt := 24) dX12_isFull_20 (by decide) ?_
    exact X_lv [0, 1] rfl (kX12_isFull_24 _ hd G hm)
def mX12_isFull (I : Nat → Nat → Int32) (a1 : Int32) (a2 : Int32) : Option (Int32) := (if a2 = (40 : Int32) then (some (1 : Int32)) else (if a1 = 0 then (mX12_isFull_15 I a1 a2 (1 : Int32)) else (mX12_isFull_15 I a1 a2 (0 : Int32))))
set_option maxHeartbeats 400000 in
set_option maxRecDepth 100000 in
theorem kX12_isFull {E : xE} {B : Nat} {n : Nat} {K : Nat → Nat × Nat} {P : Nat → Nat → Nat} {I : Nat → Nat → Int32} {L : Nat → Nat → Int64}  {a1 : Int32} {a2 : Int32} {q : Int32} (d : Nat) (hd : 0 ≤ d) (G : GW K P)   (hm : mX12_isFull I a1 a2 = some q) : MX E B d 0 0 yX12_isFull cX12_isFull 3 (some .boolean) [.ref 123, .int a1, .int a2] (n, K, P, I, L) (some (.int q), (n, K, P, I, L)) := by
  refine MX_of (lv := [(0, .ref 123), (1, .int a1), (2, .int a2)]) (by decide +kernel) (Nat.le_of_ble_eq_true rfl) rfl ?_
  unfold mX12_isFull at hm
  refine X_iload_n 2 dX12_isFull_0 rfl rfl ?_
  refine X_bipush (v := (40 : Int32)) dX12_isFull_1 (by decide) ?_
  refine X_icmp_eq (tgt := 27) dX12_isFull_3 (by decide) (fun c1 => ?_) (fun c1 => ?_)
  · replace hm := ip c1 hm
    refine X_iconst (v := (1 : Int32)) dX12_isFull_27 (by decide) ?_
    cases hm
    exact X_zret (v := (1 : Int32)) dX12_isFull_28 rfl (x_nz (Or.inr rfl))
  · replace hm := iq c1 hm
    refine X_iload_n 1 dX12_isFull_6 rfl rfl ?_
    refine X_if_ne (tgt := 14) dX12_isFull_7 (by decide) (fun c2 => ?_) (fun c2 => ?_)
    · replace hm := iq c2 hm
      refine X_iconst (v := (0 : Int32)) dX12_isFull_14 (by decide) ?_
      exact kX12_isFull_15 _ hd G hm
    · replace hm := ip c2 hm
      refine X_iconst (v := (1 : Int32)) dX12_isFull_10 (by decide) ?_
      refine X_goto (tgt := 15) dX12_isFull_11 (by decide) ?_
      exact kX12_isFull_15 _ hd G hm
def mX12_copies_2   : Nat → (Nat → Nat → Int32) → Nat → Nat → Nat → Nat → Int32 → Option ((Nat → Nat → Int32))
  | 0, _, _, _, _, _, _ => none
  | f + 1, I, a0, z0, a1, z1, a2 => (if (nI z0) ≤ a2 then (some I) else (if inb a2 z0 = true then (if inb a2 z1 = true then (mX12_copies_2 f (xu I a1 (ix a2) (I a0 (ix a2))) a0 z0 a1 z1 (a2 + 1)) else none) else none))
set_option maxHeartbeats 400000 in
set_option maxRecDepth 100000 in
theorem kX12_copies_2 {E : xE} {B : Nat} {n : Nat} {K : Nat → Nat × Nat} {P : Nat → Nat → Nat} {L : Nat → Nat → Int64}   {q : (Nat → Nat → Int32)} (d : Nat) (hd : 0 ≤ d) (G : GW K P)   : ∀ (f : Nat) (I : Nat → Nat → Int32) (a0 : Nat) (z0 : Nat) (a1 : Nat) (z1 : Nat) (a2 : Int32), K a0 = (20, z0) → K a1 = (20, z1) → mX12_copies_2 f I a0 z0 a1 z1 a2 = some q → X E B d 0 0 yX12_copies cX12_copies 3 (none : Option Jvm.ClassFile.FieldType) (none, (n, K, P, q, L)) 2 [(0, .ref a0), (1, .ref a1), (2, .int a2)] [] 0 0 (n, K, P, I, L) := by
  intro f
  induction f with
  | zero => intro _ _ _ _ _ _ _ _ hm; exact nomatch (show (none : Option ((Nat → Nat → Int32))) = some q from hm)
  | succ f ih =>
    intro I a0 z0 a1 z1 a2 h0 h1 hm
    rw [mX12_copies_2] at hm
    refine X_iload_n 2 dX12_copies_2 rfl rfl ?_
    refine X_aload_n 0 dX12_copies_3 rfl rfl rfl ?_
    refine X_alen h0 (by decide) (by decide) dX12_copies_4 ?_
    refine X_icmp_ge (tgt := 20) dX12_copies_5 (by decide) (fun c1 => ?_) (fun c1 => ?_)
    · replace hm := ip c1 hm
      cases hm
      exact X_vret dX12_copies_20 rfl
    · replace hm := iq c1 hm
      refine X_aload_n 1 dX12_copies_8 rfl rfl rfl ?_
      refine X_iload_n 2 dX12_copies_9 rfl rfl ?_
      refine X_aload_n 0 dX12_copies_10 rfl rfl rfl ?_
      refine X_iload_n 2 dX12_copies_11 rfl rfl ?_
      obtain ⟨g2, hm⟩ := og hm
      refine X_ialdJ h0 g2 rfl dX12_copies_12 ?_
      obtain ⟨g3, hm⟩ := og hm
      refine X_iastJ h1 g3 rfl dX12_copies_13 ?_
      refine X_iinc (lv' := [(2, .int (a2 + 1)), (0, .ref a0), (1, .ref a1)]) 2 dX12_copies_14 rfl rfl (by decide) rfl ?_
      refine X_goto (tgt := 2) dX12_copies_17 (by decide) ?_
      exact X_lv [1, 2, 0] rfl (ih _ _ _ _ _ _ h0 h1 hm)
def mX12_copies  (I : Nat → Nat → Int32) (a0 : Nat) (z0 : Nat) (a1 : Nat) (z1 : Nat) : Option ((Nat → Nat → Int32)) := (mX12_copies_2 xf I a0 z0 a1 z1 (0 : Int32))
set_option maxHeartbeats 400000 in
set_option maxRecDepth 100000 in
theorem kX12_copies {E : xE} {B : Nat} {n : Nat} {K : Nat → Nat × Nat} {P : Nat → Nat → Nat} {I : Nat → Nat → Int32} {L : Nat → Nat → Int64}  {a0 : Nat} {z0 : Nat} {a1 : Nat} {z1 : Nat} {q : (Nat → Nat → Int32)} (d : Nat) (hd : 0 ≤ d) (G : GW K P)  (h0 : K a0 = (20, z0)) (h1 : K a1 = (20, z1)) (hm : mX12_copies I a0 z0 a1 z1 = some q) : MX E B d 0 0 yX12_copies cX12_copies 3 (none : Option Jvm.ClassFile.FieldType) [.ref a0, .ref a1] (n, K, P, I, L) (none, (n, K, P, q, L)) := by
  refine MX_of (lv := [(0, .ref a0), (1, .ref a1)]) (by decide +kernel) (Nat.le_of_ble_eq_true rfl) rfl ?_
  unfold mX12_copies at hm
  refine X_iconst (v := (0 : Int32)) dX12_copies_0 (by decide) ?_
  refine X_istore_n (lv' := [(2, .int (0 : Int32)), (0, .ref a0), (1, .ref a1)]) dX12_copies_1 rfl (by decide) rfl ?_
  refine X_lv [1, 2, 0] rfl (kX12_copies_2 _ hd G xf _ _ _ _ _ _ h0 h1 hm)
def mX12_goesOn_63  (I : Nat → Nat → Int32) (t0 : Int32) : Option (Int32 × (Nat → Nat → Int32)) := (if t0 = 0 ∨ t0 = 1 then (some (t0, (xu I 123 28 ((I 123 28) + (1 : Int32))))) else none)
set_option maxHeartbeats 400000 in
set_option maxRecDepth 100000 in
theorem kX12_goesOn_63 {E : xE} {B : Nat} {n : Nat} {K : Nat → Nat × Nat} {P : Nat → Nat → Nat} {I : Nat → Nat → Int32} {L : Nat → Nat → Int64}   {t0 : Int32} {q : Int32 × (Nat → Nat → Int32)} (d : Nat) (hd : 2 ≤ d) (G : GW K P)    (hm : mX12_goesOn_63 I t0 = some q) : X E B d 0 0 yX12_goesOn cX12_goesOn 2 (some .boolean) (some (.int q.1), (n, K, P, q.2, L)) 63 [(0, .ref 123)] [.int t0] 0 0 (n, K, P, I, L) := by
  obtain ⟨d, rfl⟩ : ∃ d0, d = d0 + 1 := ⟨d - 1, by omega⟩
  unfold mX12_goesOn_63 at hm
  refine X_istore_n (lv' := [(1, .int t0), (0, .ref 123)]) dX12_goesOn_63 rfl (by decide) rfl ?_
  refine X_aload_n 1 dX12_goesOn_64 rfl rfl rfl ?_
  refine X_dup dX12_goesOn_65 rfl ?_
  refine X_getI fl_X12_202 (g_K123 G) rfl dX12_goesOn_66 ?_
  refine X_iconst (v := (1 : Int32)) dX12_goesOn_69 (by decide) ?_
  refine X_iadd dX12_goesOn_70 ?_
  refine X_putI fl_X12_202 (g_K123 G) rfl rfl dX12_goesOn_71 ?_
  refine X_iload_n 0 dX12_goesOn_74 rfl rfl ?_
  obtain ⟨g5, hm⟩ := og hm
  cases hm
  exact X_zret dX12_goesOn_75 rfl (x_nz g5)
def mX12_goesOn_62  (I : Nat → Nat → Int32) : Option (Int32 × (Nat → Nat → Int32)) := (mX12_goesOn_63 I (0 : Int32))
set_option maxHeartbeats 400000 in
set_option maxRecDepth 100000 in
theorem kX12_goesOn_62 {E : xE} {B : Nat} {n : Nat} {K : Nat → Nat × Nat} {P : Nat → Nat → Nat} {I : Nat → Nat → Int32} {L : Nat → Nat → Int64}    {q : Int32 × (Nat → Nat → Int32)} (d : Nat) (hd : 2 ≤ d) (G : GW K P)    (hm : mX12_goesOn_62 I = some q) : X E B d 0 0 yX12_goesOn cX12_goesOn 2 (some .boolean) (some (.int q.1), (n, K, P, q.2, L)) 62 [(0, .ref 123)] [] 0 0 (n, K, P, I, L) := by
  obtain ⟨d, rfl⟩ : ∃ d0, d = d0 + 1 := ⟨d - 1, by omega⟩
  unfold mX12_goesOn_62 at hm
  refine X_iconst (v := (0 : Int32)) dX12_goesOn_62 (by decide) ?_
  exact kX12_goesOn_63 _ hd G hm
def mX12_goesOn_40  (I : Nat → Nat → Int32) : Option (Int32 × (Nat → Nat → Int32)) := (if (I 123 29) = 0 then (if (I 123 27) ≤ (I 123 28) then (mX12_goesOn_62 I) else (mX12_goesOn_63 I (1 : Int32))) else (mX12_goesOn_62 I))
set_option maxHeartbeats 400000 in
set_option maxRecDepth 100000 in
theorem kX12_goesOn_40 {E : xE} {B : Nat} {n : Nat} {K : Nat → Nat × Nat} {P : Nat → Nat → Nat} {I : Nat → Nat → Int32} {L : Nat → Nat → Int64}    {q : Int32 × (Nat → Nat → Int32)} (d : Nat) (hd : 2 ≤ d) (G : GW K P)    (hm : mX12_goesOn_40 I = some q) : X E B d 0 0 yX12_goesOn cX12_goesOn 2 (some .boolean) (some (.int q.1), (n, K, P, q.2, L)) 40 [(0, .ref 123)] [] 0 0 (n, K, P, I, L) := by
  obtain ⟨d, rfl⟩ : ∃ d0, d = d0 + 1 := ⟨d - 1, by omega⟩
  unfold mX12_goesOn_40 at hm
  refine X_aload_n 0 dX12_goesOn_40 rfl rfl rfl ?_
  refine X_getI fl_X12_199 (g_K123 G) rfl dX12_goesOn_41 ?_
  refine X_if_ne (tgt := 62) dX12_goesOn_44 (by decide) (fun c4 => ?_) (fun c4 => ?_)
  · replace hm := iq c4 hm
    exact kX12_goesOn_62 _ hd G hm
  · replace hm := ip c4 hm
    refine X_aload_n 0 dX12_goesOn_47 rfl rfl rfl ?_
    refine X_getI fl_X12_202 (g_K123 G) rfl dX12_goesOn_48 ?_
    refine X_aload_n 0 dX12_goesOn_51 rfl rfl rfl ?_
    refine X_getI fl_X12_168 (g_K123 G) rfl dX12_goesOn_52 ?_
    refine X_icmp_ge (tgt := 62) dX12_goesOn_55 (by decide) (fun c6 => ?_) (fun c6 => ?_)
    · replace hm := ip c6 hm
      exact kX12_goesOn_62 _ hd G hm
    · replace hm := iq c6 hm
      refine X_iconst (v := (1 : Int32)) dX12_goesOn_58 (by decide) ?_
      refine X_goto (tgt := 63) dX12_goesOn_59 (by decide) ?_
      exact kX12_goesOn_63 _ hd G hm
def mX12_goesOn  (I : Nat → Nat → Int32) : Option (Int32 × (Nat → Nat → Int32)) := (Option.bind (mX12_blanks I) (fun q1 => (if (q1 123 29) = 0 then (if (q1 123 27) ≤ (q1 123 28) then (mX12_goesOn_40 q1) else (Option.bind (mX12_sign q1) (fun q8 => (if q8 = (59 : Int32) then (mX12_goesOn_40 q1) else (Option.bind (mX12_fails q1 (0 : Int32) (q1 123 28)) (fun q11 => (mX12_goesOn_40 q11))))))) else (mX12_goesOn_40 q1))))
set_option maxHeartbeats 400000 in
set_option maxRecDepth 100000 in
theorem kX12_goesOn {E : xE} {B : Nat} {n : Nat} {K : Nat → Nat × Nat} {P : Nat → Nat → Nat} {I : Nat → Nat → Int32} {L : Nat → Nat → Int64}   {q : Int32 × (Nat → Nat → Int32)} (d : Nat) (hd : 2 ≤ d) (G : GW K P)   (hm : mX12_goesOn I = some q) : MX E B d 0 0 yX12_goesOn cX12_goesOn 2 (some .boolean) [.ref 123] (n, K, P, I, L) (some (.int q.1), (n, K, P, q.2, L)) := by
  refine MX_of (lv := [(0, .ref 123)]) (by decide +kernel) (Nat.le_of_ble_eq_true rfl) rfl ?_
  obtain ⟨d, rfl⟩ : ∃ d0, d = d0 + 1 := ⟨d - 1, by omega⟩
  unfold mX12_goesOn at hm
  refine X_aload_n 0 dX12_goesOn_0 rfl rfl rfl ?_
  obtain ⟨q1, e2, hm⟩ := ob hm
  refine X_cV0 (ci := 11) (kX12_blanks d (by omega) G e2) ml_X12_222 mi_X12_blanks rfl cf_11 (g_K123 G) rfl rfl (Nat.le_refl _) ⟨Nat.le_refl _, Nat.le_refl _⟩ (Nat.le_of_ble_eq_true rfl) dX12_goesOn_1 ?_
  refine X_aload_n 0 dX12_goesOn_4 rfl rfl rfl ?_
  refine X_getI fl_X12_199 (g_K123 G) rfl dX12_goesOn_5 ?_
  refine X_if_ne (tgt := 40) dX12_goesOn_8 (by decide) (fun c3 => ?_) (fun c3 => ?_)
  · replace hm := iq c3 hm
    exact kX12_goesOn_40 _ hd G hm
  · replace hm := ip c3 hm
    refine X_aload_n 0 dX12_goesOn_11 rfl rfl rfl ?_
    refine X_getI fl_X12_202 (g_K123 G) rfl dX12_goesOn_12 ?_
    refine X_aload_n 0 dX12_goesOn_15 rfl rfl rfl ?_
    refine X_getI fl_X12_168 (g_K123 G) rfl dX12_goesOn_16 ?_
    refine X_icmp_ge (tgt := 40) dX12_goesOn_19 (by decide) (fun c7 => ?_) (fun c7 => ?_)
    · replace hm := ip c7 hm
      exact kX12_goesOn_40 _ hd G hm
    · replace hm := iq c7 hm
      refine X_aload_n 0 dX12_goesOn_22 rfl rfl rfl ?_
      obtain ⟨q8, e9, hm⟩ := ob hm
      refine X_cV1 (ci := 11) (kX12_sign d (by omega) G e9) ml_X12_205 mi_X12_sign rfl cf_11 (g_K123 G) rfl rfl (Nat.le_refl _) ⟨Nat.le_refl _, Nat.le_refl _⟩ (Nat.le_of_ble_eq_true rfl) dX12_goesOn_23 ?_
      refine X_bipush (v := (59 : Int32)) dX12_goesOn_26 (by decide) ?_
      refine X_icmp_eq (tgt := 40) dX12_goesOn_28 (by decide) (fun c10 => ?_) (fun c10 => ?_)
      · replace hm := ip c10 hm
        exact kX12_goesOn_40 _ hd G hm
      · replace hm := iq c10 hm
        refine X_aload_n 0 dX12_goesOn_31 rfl rfl rfl ?_
        refine X_iconst (v := (0 : Int32)) dX12_goesOn_32 (by decide) ?_
        refine X_aload_n 0 dX12_goesOn_33 rfl rfl rfl ?_
        refine X_getI fl_X12_202 (g_K123 G) rfl dX12_goesOn_34 ?_
        obtain ⟨q11, e12, hm⟩ := ob hm
        refine X_cV0 (ci := 11) (kX12_fails d (by omega) G e12) ml_X12_238 mi_X12_fails rfl cf_11 (g_K123 G) rfl rfl (Nat.le_refl _) ⟨Nat.le_refl _, Nat.le_refl _⟩ (Nat.le_of_ble_eq_true rfl) dX12_goesOn_37 ?_
        exact kX12_goesOn_40 _ hd G hm
def mX12_starts  (I : Nat → Nat → Int32) : Option ((Nat → Nat → Int32)) := (some (xu (xu (xu (xu (xu I 123 28 (0 : Int32)) 123 29 (0 : Int32)) 123 32 (0 : Int32)) 123 33 (0 : Int32)) 123 34 (0 : Int32)))
set_option maxHeartbeats 400000 in
set_option maxRecDepth 100000 in
theorem kX12_starts {E : xE} {B : Nat} {n : Nat} {K : Nat → Nat × Nat} {P : Nat → Nat → Nat} {I : Nat → Nat → Int32} {L : Nat → Nat → Int64}   {q : (Nat → Nat → Int32)} (d : Nat) (hd : 0 ≤ d) (G : GW K P)   (hm : mX12_starts I = some q) : MX E B d 0 0 yX12_starts cX12_starts 1 (none : Option Jvm.ClassFile.FieldType) [.ref 123] (n, K, P, I, L) (none, (n, K, P, q, L)) := by
  refine MX_of (lv := [(0, .ref 123)]) (by decide +kernel) (Nat.le_of_ble_eq_true rfl) rfl ?_
  unfold mX12_starts at hm
  refine X_aload_n 0 dX12_starts_0 rfl rfl rfl ?_
  refine X_iconst (v := (0 : Int32)) dX12_starts_1 (by decide) ?_
  refine X_putI fl_X12_202 (g_K123 G) rfl rfl dX12_starts_2 ?_
  refine X_aload_n 0 dX12_starts_5 rfl rfl rfl ?_
  refine X_iconst (v := (0 : Int32)) dX12_starts_6 (by decide) ?_
  refine X_putI fl_X12_199 (g_K123 G) rfl rfl dX12_starts_7 ?_
  refine X_aload_n 0 dX12_starts_10 rfl rfl rfl ?_
  refine X_iconst (v := (0 : Int32)) dX12_starts_11 (by decide) ?_
  refine X_putI fl_X12_232 (g_K123 G) rfl rfl dX12_starts_12 ?_
  refine X_aload_n 0 dX12_starts_15 rfl rfl rfl ?_
  refine X_iconst (v := (0 : Int32)) dX12_starts_16 (by decide) ?_
  refine X_putI fl_X12_272 (g_K123 G) rfl rfl dX12_starts_17 ?_
  refine X_aload_n 0 dX12_starts_20 rfl rfl rfl ?_
  refine X_iconst (v := (0 : Int32)) dX12_starts_21 (by decide) ?_
  refine X_putI fl_X12_235 (g_K123 G) rfl rfl dX12_starts_22 ?_
  cases hm
  exact X_vret dX12_starts_25 rfl
def mX12_isBare (I : Nat → Nat → Int32) (a1 : Int32) : Option (Int32) := (Option.bind (mX12_has (I 124 8) a1) (fun q1 => (if q1 = 0 ∨ q1 = 1 then (some q1) else none)))
set_option maxHeartbeats 400000 in
set_option maxRecDepth 100000 in
theorem kX12_isBare {E : xE} {B : Nat} {n : Nat} {K : Nat → Nat × Nat} {P : Nat → Nat → Nat} {I : Nat → Nat → Int32} {L : Nat → Nat → Int64}  {a1 : Int32} {q : Int32} (d : Nat) (hd : 1 ≤ d) (G : GW K P)   (hm : mX12_isBare I a1 = some q) : MX E B d 0 0 yX12_isBare cX12_isBare 2 (some .boolean) [.ref 123, .int a1] (n, K, P, I, L) (some (.int q), (n, K, P, I, L)) := by
  refine MX_of (lv := [(0, .ref 123), (1, .int a1)]) (by decide +kernel) (Nat.le_of_ble_eq_true rfl) rfl ?_
  obtain ⟨d, rfl⟩ : ∃ d0, d = d0 + 1 := ⟨d - 1, by omega⟩
  unfold mX12_isBare at hm
  refine X_aload_n 0 dX12_isBare_0 rfl rfl rfl ?_
  refine X_getPe fl_X12_9 (g_K123 G) rfl (g_P123_1 G) dX12_isBare_1 ?_
  refine X_bipush (v := (8 : Int32)) dX12_isBare_4 (by decide) ?_
  refine X_ialdJ (j := 8) (g_K124 G) rfl (by decide) dX12_isBare_6 ?_
  refine X_iload_n 1 dX12_isBare_7 rfl rfl ?_
  obtain ⟨q1, e2, hm⟩ := ob hm
  refine X_cS1 (kX12_has d (by omega) G e2) ml_X12_382 ms_X12_has rfl rfl (Nat.le_refl _) ⟨Nat.le_refl _, Nat.le_refl _⟩ (Nat.le_of_ble_eq_true rfl) dX12_isBare_8 ?_
  obtain ⟨g3, hm⟩ := og hm
  cases hm
  exact X_zret dX12_isBare_11 rfl (x_nz g3)
def mX12_barely_9   : Nat → (Nat → Nat → Int32) → Int32 → Int32 → Int32 → Option (Int32 × (Nat → Nat → Int32))
  | 0, _, _, _, _ => none
  | f + 1, I, a1, a2, a3 => (if inb (a1 + (1 : Int32)) 5 = true then (if (I 125 (ix (a1 + (1 : Int32)))) ≤ a3 then (some (a2, I)) else (if inb a3 16 = true then (if inb a3 16 = true then (mX12_barely_9 f (xu I 131 (ix a3) (0 : Int32)) a1 (a2 + (I 131 (ix a3))) (a3 + 1)) else none) else none)) else none)
set_option maxHeartbeats 400000 in
set_option maxRecDepth 100000 in
theorem kX12_barely_9 {E : xE} {B : Nat} {n : Nat} {K : Nat → Nat × Nat} {P : Nat → Nat → Nat} {L : Nat → Nat → Int64}   {q : Int32 × (Nat → Nat → Int32)} (d : Nat) (hd : 0 ≤ d) (G : GW K P)   : ∀ (f : Nat) (I : Nat → Nat → Int32) (a1 : Int32) (a2 : Int32) (a3 : Int32), mX12_barely_9 f I a1 a2 a3 = some q → X E B d 0 0 yX12_barely cX12_barely 4 (some .int) (some (.int q.1), (n, K, P, q.2, L)) 9 [(0, .ref 123), (1, .int a1), (2, .int a2), (3, .int a3)] [] 0 0 (n, K, P, I, L) := by
  intro f
  induction f with
  | zero => intro _ _ _ _ hm; exact nomatch (show (none : Option (Int32 × (Nat → Nat → Int32))) = some q from hm)
  | succ f ih =>
    intro I a1 a2 a3 hm
    rw [mX12_barely_9] at hm
    refine X_iload_n 3 dX12_barely_9 rfl rfl ?_
    refine X_aload_n 0 dX12_barely_10 rfl rfl rfl ?_
    refine X_getPe fl_X12_13 (g_K123 G) rfl (g_P123_2 G) dX12_barely_11 ?_
    refine X_iload_n 1 dX12_barely_14 rfl rfl ?_
    refine X_iconst (v := (1 : Int32)) dX12_barely_15 (by decide) ?_
    refine X_iadd dX12_barely_16 ?_
    obtain ⟨g2, hm⟩ := og hm
    refine X_ialdJ (g_K125 G) g2 rfl dX12_barely_17 ?_
    refine X_icmp_ge (tgt := 43) dX12_barely_18 (by decide) (fun c3 => ?_) (fun c3 => ?_)
    · replace hm := ip c3 hm
      refine X_iload_n 2 dX12_barely_43 rfl rfl ?_
      cases hm
      exact X_iret dX12_barely_44 rfl
    · replace hm := iq c3 hm
      refine X_iload_n 2 dX12_barely_21 rfl rfl ?_
      refine X_aload_n 0 dX12_barely_22 rfl rfl rfl ?_
      refine X_getPe fl_X12_31 (g_K123 G) rfl (g_P123_8 G) dX12_barely_23 ?_
      refine X_iload_n 3 dX12_barely_26 rfl rfl ?_
      obtain ⟨g4, hm⟩ := og hm
      refine X_ialdJ (g_K131 G) g4 rfl dX12_barely_27 ?_
      refine X_iadd dX12_barely_28 ?_
      refine X_istore_n (lv' := [(2, .int (a2 + (I 131 (ix a3)))), (0, .ref 123), (1, .int a1), (3, .int a3)]) dX12_barely_29 rfl (by decide) rfl ?_
      refine X_aload_n 1 dX12_barely_30 rfl rfl rfl ?_
      refine X_getPe fl_X12_31 (g_K123 G) rfl (g_P123_8 G) dX12_barely_31 ?_
      refine X_iload_n 3 dX12_barely_34 rfl rfl ?_
      refine X_iconst (v := (0 : Int32)) dX12_barely_35 (by decide) ?_
      obtain ⟨g5, hm⟩ := og hm
      refine X_iastJ (g_K131 G) g5 rfl dX12_barely_36 ?_
      refine X_iinc (lv' := [(3, .int (a3 + 1)), (2, .int (a2 + (I 131 (ix a3)))), (0, .ref 123), (1, .int a1)]) 3 dX12_barely_37 rfl rfl (by decide) rfl ?_
      refine X_goto (tgt := 9) dX12_barely_40 (by decide) ?_
      exact X_lv [2, 3, 1, 0] rfl (ih _ _ _ _ hm)
def mX12_barely  (I : Nat → Nat → Int32) (a1 : Int32) : Option (Int32 × (Nat → Nat → Int32)) := (if inb a1 5 = true then (mX12_barely_9 xf I a1 (0 : Int32) (I 125 (ix a1))) else none)
set_option maxHeartbeats 400000 in
set_option maxRecDepth 100000 in
theorem kX12_barely {E : xE} {B : Nat} {n : Nat} {K : Nat → Nat × Nat} {P : Nat → Nat → Nat} {I : Nat → Nat → Int32} {L : Nat → Nat → Int64}  {a1 : Int32} {q : Int32 × (Nat → Nat → Int32)} (d : Nat) (hd : 0 ≤ d) (G : GW K P)   (hm : mX12_barely I a1 = some q) : MX E B d 0 0 yX12_barely cX12_barely 4 (some .int) [.ref 123, .int a1] (n, K, P, I, L) (some (.int q.1), (n, K, P, q.2, L)) := by
  refine MX_of (lv := [(0, .ref 123), (1, .int a1)]) (by decide +kernel) (Nat.le_of_ble_eq_true rfl) rfl ?_
  unfold mX12_barely at hm
  refine X_iconst (v := (0 : Int32)) dX12_barely_0 (by decide) ?_
  refine X_istore_n (lv' := [(2, .int (0 : Int32)), (0, .ref 123), (1, .int a1)]) dX12_barely_1 rfl (by decide) rfl ?_
  refine X_aload_n 1 dX12_barely_2 rfl rfl rfl ?_
  refine X_getPe fl_X12_13 (g_K123 G) rfl (g_P123_2 G) dX12_barely_3 ?_
  refine X_iload_n 2 dX12_barely_6 rfl rfl ?_
  obtain ⟨g1, hm⟩ := og hm
  refine X_ialdJ (g_K125 G) g1 rfl dX12_barely_7 ?_
  refine X_istore_n (lv' := [(3, .int (I 125 (ix a1))), (2, .int (0 : Int32)), (0, .ref 123), (1, .int a1)]) dX12_barely_8 rfl (by decide) rfl ?_
  refine X_lv [2, 3, 1, 0] rfl (kX12_barely_9 _ hd G xf _ _ _ _  hm)
def mX12_begins_35  (e54 : (Nat → Nat → Int32) → Option ((Nat → Nat → Int32))) : Nat → (Nat → Nat → Int32) → Int32 → Option ((Nat → Nat → Int32))
  | 0, _, _ => none
  | f + 1, I, a1 => (if (80 : Int32) ≤ a1 then (e54 I) else (if inb a1 80 = true then (mX12_begins_35 e54 f (xu I 133 (ix a1) (-1 : Int32)) (a1 + 1)) else none))
set_option maxHeartbeats 400000 in
set_option maxRecDepth 100000 in
theorem kX12_begins_35 {E : xE} {B : Nat} {n : Nat} {K : Nat → Nat × Nat} {P : Nat → Nat → Nat} {L : Nat → Nat → Int64}  {e54 : (Nat → Nat → Int32) → Option ((Nat → Nat → Int32))} {q : (Nat → Nat → Int32)} (d : Nat) (hd : 2 ≤ d) (G : GW K P)  (he54 : ∀ (I : Nat → Nat → Int32), e54 I = some q → X E B d 0 0 yX12_begins cX12_begins 2 (none : Option Jvm.ClassFile.FieldType) (none, (n, K, P, q, L)) 54 [(0, .ref 123)] [] 0 0 (n, K, P, I, L)) : ∀ (f : Nat) (I : Nat → Nat → Int32) (a1 : Int32), mX12_begins_35 e54 f I a1 = some q → X E B d 0 0 yX12_begins cX12_begins 2 (none : Option Jvm.ClassFile.FieldType) (none, (n, K, P, q, L)) 35 [(0, .ref 123), (1, .int a1)] [] 0 0 (n, K, P, I, L) := by
  obtain ⟨d, rfl⟩ : ∃ d0, d = d0 + 1 := ⟨d - 1, by omega⟩
  intro f
  induction f with
  | zero => intro _ _ hm; exact nomatch (show (none : Option ((Nat → Nat → Int32))) = some q from hm)
  | succ f ih =>
    intro I a1 hm
    rw [mX12_begins_35] at hm
    refine X_iload_n 1 dX12_begins_35 rfl rfl ?_
    refine X_bipush (v := (80 : Int32)) dX12_begins_36 (by decide) ?_
    refine X_icmp_ge (tgt := 54) dX12_begins_38 (by decide) (fun c7 => ?_) (fun c7 => ?_)
    · replace hm := ip c7 hm
      exact X_lv [0] rfl (he54 _ hm)
    · replace hm := iq c7 hm
      refine X_aload_n 0 dX12_begins_41 rfl rfl rfl ?_
      refine X_getPe fl_X12_37 (g_K123 G) rfl (g_P123_10 G) dX12_begins_42 ?_
      refine X_iload_n 1 dX12_begins_45 rfl rfl ?_
      refine X_iconst (v := (-1 : Int32)) dX12_begins_46 (by decide) ?_
      obtain ⟨g8, hm⟩ := og hm
      refine X_iastJ (g_K133 G) g8 rfl dX12_begins_47 ?_
      refine X_iinc (lv' := [(1, .int (a1 + 1)), (0, .ref 123)]) 1 dX12_begins_48 rfl rfl (by decide) rfl ?_
      refine X_goto (tgt := 35) dX12_begins_51 (by decide) ?_
      exact X_lv [1, 0] rfl (ih _ _ hm)
def mX12_begins_77   : Nat → (Nat → Nat → Int32) → Int32 → Option ((Nat → Nat → Int32))
  | 0, _, _ => none
  | f + 1, I, a1 => (if (I 124 3) ≤ a1 then (some I) else (Option.bind (mX12_isBare I a1) (fun q11 => (if q11 = 0 then (mX12_begins_77 f I (a1 + 1)) else (Option.bind (mX12_barely I a1) (fun q14 => (mX12_begins_77 f q14.2 (a1 + 1))))))))
set_option maxHeartbeats 400000 in
set_option maxRecDepth 100000 in
theorem kX12_begins_77 {E : xE} {B : Nat} {n : Nat} {K : Nat → Nat × Nat} {P : Nat → Nat → Nat} {L : Nat → Nat → Int64}   {q : (Nat → Nat → Int32)} (d : Nat) (hd : 2 ≤ d) (G : GW K P)   : ∀ (f : Nat) (I : Nat → Nat → Int32) (a1 : Int32), mX12_begins_77 f I a1 = some q → X E B d 0 0 yX12_begins cX12_begins 2 (none : Option Jvm.ClassFile.FieldType) (none, (n, K, P, q, L)) 77 [(0, .ref 123), (1, .int a1)] [] 0 0 (n, K, P, I, L) := by
  obtain ⟨d, rfl⟩ : ∃ d0, d = d0 + 1 := ⟨d - 1, by omega⟩
  intro f
  induction f with
  | zero => intro _ _ hm; exact nomatch (show (none : Option ((Nat → Nat → Int32))) = some q from hm)
  | succ f ih =>
    intro I a1 hm
    rw [mX12_begins_77] at hm
    refine X_iload_n 1 dX12_begins_77 rfl rfl ?_
    refine X_aload_n 0 dX12_begins_78 rfl rfl rfl ?_
    refine X_getPe fl_X12_9 (g_K123 G) rfl (g_P123_1 G) dX12_begins_79 ?_
    refine X_iconst (v := (3 : Int32)) dX12_begins_82 (by decide) ?_
    refine X_ialdJ (j := 3) (g_K124 G) rfl (by decide) dX12_begins_83 ?_
    refine X_icmp_ge (tgt := 107) dX12_begins_84 (by decide) (fun c10 => ?_) (fun c10 => ?_)
    · replace hm := ip c10 hm
      cases hm
      exact X_vret dX12_begins_107 rfl
    · replace hm := iq c10 hm
      refine X_aload_n 0 dX12_begins_87 rfl rfl rfl ?_
      refine X_iload_n 1 dX12_begins_88 rfl rfl ?_
      obtain ⟨q11, e12, hm⟩ := ob hm
      refine X_cV1 (ci := 11) (kX12_isBare d (by omega) G e12) ml_X12_336 mi_X12_isBare rfl cf_11 (g_K123 G) rfl rfl (Nat.le_refl _) ⟨Nat.le_refl _, Nat.le_refl _⟩ (Nat.le_of_ble_eq_true rfl) dX12_begins_89 ?_
      refine X_if_eq (tgt := 101) dX12_begins_92 (by decide) (fun c13 => ?_) (fun c13 => ?_)
      · replace hm := ip c13 hm
        refine X_iinc (lv' := [(1, .int (a1 + 1)), (0, .ref 123)]) 1 dX12_begins_101 rfl rfl (by decide) rfl ?_
        refine X_goto (tgt := 77) dX12_begins_104 (by decide) ?_
        exact X_lv [1, 0] rfl (ih _ _ hm)
      · replace hm := iq c13 hm
        refine X_aload_n 0 dX12_begins_95 rfl rfl rfl ?_
        refine X_iload_n 1 dX12_begins_96 rfl rfl ?_
        obtain ⟨q14, e15, hm⟩ := ob hm
        refine X_cV1 (ci := 11) (kX12_barely d (by omega) G e15) ml_X12_340 mi_X12_barely rfl cf_11 (g_K123 G) rfl rfl (Nat.le_refl _) ⟨Nat.le_refl _, Nat.le_refl _⟩ (Nat.le_of_ble_eq_true rfl) dX12_begins_97 ?_
        refine X_pop dX12_begins_100 rfl ?_
        refine X_iinc (lv' := [(1, .int (a1 + 1)), (0, .ref 123)]) 1 dX12_begins_101 rfl rfl (by decide) rfl ?_
        refine X_goto (tgt := 77) dX12_begins_104 (by decide) ?_
        exact X_lv [1, 0] rfl (ih _ _ hm)
def mX12_begins  (I : Nat → Nat → Int32) : Option ((Nat → Nat → Int32)) := (Option.bind (mX12_copies I 137 16 131 16) (fun q1 => (Option.bind (mX12_copies q1 138 80 132 80) (fun q3 => (Option.bind (mX12_copies q3 139 4 128 4) (fun q5 => (mX12_begins_35 (fun (I_9 : (Nat → Nat → Int32)) => (mX12_begins_77 xf (xu (xu I_9 124 8 (I_9 140 0)) 124 9 (0 : Int32)) (0 : Int32))) xf q5 (0 : Int32))))))))
set_option maxHeartbeats 400000 in
set_option maxRecDepth 100000 in
theorem kX12_begins {E : xE} {B : Nat} {n : Nat} {K : Nat → Nat × Nat} {P : Nat → Nat → Nat} {I : Nat → Nat → Int32} {L : Nat → Nat → Int64}   {q : (Nat → Nat → Int32)} (d : Nat) (hd : 2 ≤ d) (G : GW K P)   (hm : mX12_begins I = some q) : MX E B d 0 0 yX12_begins cX12_begins 2 (none : Option Jvm.ClassFile.FieldType) [.ref 123] (n, K, P, I, L) (none, (n, K, P, q, L)) := by
  refine MX_of (lv := [(0, .ref 123)]) (by decide +kernel) (Nat.le_of_ble_eq_true rfl) rfl ?_
  obtain ⟨d, rfl⟩ : ∃ d0, d = d0 + 1 := ⟨d - 1, by omega⟩
  unfold mX12_begins at hm
  refine X_aload_n 0 dX12_begins_0 rfl rfl rfl ?_
  refine X_getPe fl_X12_49 (g_K123 G) rfl (g_P123_14 G) dX12_begins_1 ?_
  refine X_aload_n 0 dX12_begins_4 rfl rfl rfl ?_
  refine X_getPe fl_X12_31 (g_K123 G) rfl (g_P123_8 G) dX12_begins_5 ?_
  obtain ⟨q1, e2, hm⟩ := ob hm
  refine X_cS0 (kX12_copies d (by omega) G (g_K137 G) (g_K131 G) e2) ml_X12_332 ms_X12_copies rfl rfl (Nat.le_refl _) ⟨Nat.le_refl _, Nat.le_refl _⟩ (Nat.le_of_ble_eq_true rfl) dX12_begins_8 ?_
  refine X_aload_n 0 dX12_begins_11 rfl rfl rfl ?_
  refine X_getPe fl_X12_52 (g_K123 G) rfl (g_P123_15 G) dX12_begins_12 ?_
  refine X_aload_n 0 dX12_begins_15 rfl rfl rfl ?_
  refine X_getPe fl_X12_34 (g_K123 G) rfl (g_P123_9 G) dX12_begins_16 ?_
  obtain ⟨q3, e4, hm⟩ := ob hm
  refine X_cS0 (kX12_copies d (by omega) G (g_K138 G) (g_K132 G) e4) ml_X12_332 ms_X12_copies rfl rfl (Nat.le_refl _) ⟨Nat.le_refl _, Nat.le_refl _⟩ (Nat.le_of_ble_eq_true rfl) dX12_begins_19 ?_
  refine X_aload_n 0 dX12_begins_22 rfl rfl rfl ?_
  refine X_getPe fl_X12_55 (g_K123 G) rfl (g_P123_16 G) dX12_begins_23 ?_
  refine X_aload_n 0 dX12_begins_26 rfl rfl rfl ?_
  refine X_getPe fl_X12_22 (g_K123 G) rfl (g_P123_5 G) dX12_begins_27 ?_
  obtain ⟨q5, e6, hm⟩ := ob hm
  refine X_cS0 (kX12_copies d (by omega) G (g_K139 G) (g_K128 G) e6) ml_X12_332 ms_X12_copies rfl rfl (Nat.le_refl _) ⟨Nat.le_refl _, Nat.le_refl _⟩ (Nat.le_of_ble_eq_true rfl) dX12_begins_30 ?_
  refine X_iconst (v := (0 : Int32)) dX12_begins_33 (by decide) ?_
  refine X_istore_n (lv' := [(1, .int (0 : Int32)), (0, .ref 123)]) dX12_begins_34 rfl (by decide) rfl ?_
  refine X_lv [1, 0] rfl (kX12_begins_35 _ hd G (fun I_9 hm => ?_) xf _ _  hm)
  refine X_aload_n 0 dX12_begins_54 rfl rfl rfl ?_
  refine X_getPe fl_X12_9 (g_K123 G) rfl (g_P123_1 G) dX12_begins_55 ?_
  refine X_bipush (v := (8 : Int32)) dX12_begins_58 (by decide) ?_
  refine X_aload_n 0 dX12_begins_60 rfl rfl rfl ?_
  refine X_getPe fl_X12_58 (g_K123 G) rfl (g_P123_17 G) dX12_begins_61 ?_
  refine X_iconst (v := (0 : Int32)) dX12_begins_64 (by decide) ?_
  refine X_ialdJ (j := 0) (g_K140 G) rfl (by decide) dX12_begins_65 ?_
  refine X_iastJ (j := 8) (g_K124 G) rfl (by decide) dX12_begins_66 ?_
  refine X_aload_n 0 dX12_begins_67 rfl rfl rfl ?_
  refine X_getPe fl_X12_9 (g_K123 G) rfl (g_P123_1 G) dX12_begins_68 ?_
  refine X_bipush (v := (9 : Int32)) dX12_begins_71 (by decide) ?_
  refine X_iconst (v := (0 : Int32)) dX12_begins_73 (by decide) ?_
  refine X_iastJ (j := 9) (g_K124 G) rfl (by decide) dX12_begins_74 ?_
  refine X_iconst (v := (0 : Int32)) dX12_begins_75 (by decide) ?_
  refine X_istore_n (lv' := [(1, .int (0 : Int32)), (0, .ref 123)]) dX12_begins_76 rfl (by decide) rfl ?_
  refine X_lv [1, 0] rfl (kX12_begins_77 _ hd G xf _ _  hm)
def mX12_force  (I : Nat → Nat → Int32) (a1 : Int32) : Option (Int32 × (Nat → Nat → Int32)) := (Option.bind (mX12_in a1.toInt64 (-1 : Int64) ((I 123 31) - (1 : Int32)).toInt64) (fun q1 => (if q1 = 0 then (some ((-2 : Int32), I)) else (some ((I 124 12), (xu I 124 12 a1))))))
set_option maxHeartbeats 400000 in
set_option maxRecDepth 100000 in
theorem kX12_force {E : xE} {B : Nat} {n : Nat} {K : Nat → Nat × Nat} {P : Nat → Nat → Nat} {I : Nat → Nat → Int32} {L : Nat → Nat → Int64}  {a1 : Int32} {q : Int32 × (Nat → Nat → Int32)} (d : Nat) (hd : 1 ≤ d) (G : GW K P)   (hm : mX12_force I a1 = some q) : MX E B d 0 0 yX12_force cX12_force 3 (some .int) [.ref 123, .int a1] (n, K, P, I, L) (some (.int q.1), (n, K, P, q.2, L)) := by
  refine MX_of (lv := [(0, .ref 123), (1, .int a1)]) (by decide +kernel) (Nat.le_of_ble_eq_true rfl) rfl ?_
  obtain ⟨d, rfl⟩ : ∃ d0, d = d0 + 1 := ⟨d - 1, by omega⟩
  unfold mX12_force at hm
  refine X_iload_n 1 dX12_force_0 rfl rfl ?_
  refine X_i2l dX12_force_1 ?_
  refine X_ldc2 lc_X12_368 dX12_force_2 ?_
  refine X_aload_n 0 dX12_force_5 rfl rfl rfl ?_
  refine X_getI fl_X12_362 (g_K123 G) rfl dX12_force_6 ?_
  refine X_iconst (v := (1 : Int32)) dX12_force_9 (by decide) ?_
  refine X_isub dX12_force_10 ?_
  refine X_i2l dX12_force_11 ?_
  obtain ⟨q1, e2, hm⟩ := ob hm
  refine X_cS1 (kX12_in d (by omega) G e2) ml_X12_164 ms_X12_in rfl rfl (Nat.le_refl _) ⟨Nat.le_refl _, Nat.le_refl _⟩ (Nat.le_of_ble_eq_true rfl) dX12_force_12 ?_
  refine X_if_ne (tgt := 21) dX12_force_15 (by decide) (fun c3 => ?_) (fun c3 => ?_)
  · replace hm := iq c3 hm
    refine X_aload_n 0 dX12_force_21 rfl rfl rfl ?_
    refine X_getPe fl_X12_9 (g_K123 G) rfl (g_P123_1 G) dX12_force_22 ?_
    refine X_bipush (v := (12 : Int32)) dX12_force_25 (by decide) ?_
    refine X_ialdJ (j := 12) (g_K124 G) rfl (by decide) dX12_force_27 ?_
    refine X_istore_n (lv' := [(2, .int (I 124 12)), (0, .ref 123), (1, .int a1)]) dX12_force_28 rfl (by decide) rfl ?_
    refine X_aload_n 1 dX12_force_29 rfl rfl rfl ?_
    refine X_getPe fl_X12_9 (g_K123 G) rfl (g_P123_1 G) dX12_force_30 ?_
    refine X_bipush (v := (12 : Int32)) dX12_force_33 (by decide) ?_
    refine X_iload_n 2 dX12_force_35 rfl rfl ?_
    refine X_iastJ (j := 12) (g_K124 G) rfl (by decide) dX12_force_36 ?_
    refine X_iload_n 0 dX12_force_37 rfl rfl ?_
    cases hm
    exact X_iret dX12_force_38 rfl
  · replace hm := ip c3 hm
    refine X_bipush (v := (-2 : Int32)) dX12_force_18 (by decide) ?_
    cases hm
    exact X_iret dX12_force_20 rfl
def mX12_truth  (a0 : Int32) : Option (Int64) := (if a0 = 0 then (some (0 : Int64)) else (some (1 : Int64)))
set_option maxHeartbeats 400000 in
set_option maxRecDepth 100000 in
theorem kX12_truth {E : xE} {B : Nat} {n : Nat} {K : Nat → Nat × Nat} {P : Nat → Nat → Nat} {I : Nat → Nat → Int32} {L : Nat → Nat → Int64}  {a0 : Int32} {q : Int64} (d : Nat) (hd : 0 ≤ d) (G : GW K P)   (hm : mX12_truth a0 = some q) : MX E B d 0 0 yX12_truth cX12_truth 1 (some .long) [.int a0] (n, K, P, I, L) (some (.long q), (n, K, P, I, L)) := by
  refine MX_of (lv := [(0, .int a0)]) (by decide +kernel) (Nat.le_of_ble_eq_true rfl) rfl ?_
  unfold mX12_truth at hm
  refine X_iload_n 0 dX12_truth_0 rfl rfl ?_
  refine X_if_eq (tgt := 8) dX12_truth_1 (by decide) (fun c1 => ?_) (fun c1 => ?_)
  · replace hm := ip c1 hm
    refine X_lconst (v := (0 : Int64)) dX12_truth_8 (by decide) ?_
    cases hm
    exact X_lret dX12_truth_9 rfl
  · replace hm := iq c1 hm
    refine X_lconst (v := (1 : Int64)) dX12_truth_4 (by decide) ?_
    refine X_goto (tgt := 9) dX12_truth_5 (by decide) ?_
    cases hm
    exact X_lret dX12_truth_9 rfl
def mX12_both_123  (t0 : Int32) : Option (Int64) := (Option.bind (mX12_truth t0) (fun q5 => (some q5)))
set_option maxHeartbeats 400000 in
set_option maxRecDepth 100000 in
theorem kX12_both_123 {E : xE} {B : Nat} {n : Nat} {K : Nat → Nat × Nat} {P : Nat → Nat → Nat} {I : Nat → Nat → Int32} {L : Nat → Nat → Int64}   {t0 : Int32} {q : Int64} (d : Nat) (hd : 1 ≤ d) (G : GW K P)    (hm : mX12_both_123 t0 = some q) : X E B d 0 0 yX12_both cX12_both 5 (some .long) (some (.long q), (n, K, P, I, L)) 123 [] [.int t0] 0 0 (n, K, P, I, L) := by
  obtain ⟨d, rfl⟩ : ∃ d0, d = d0 + 1 := ⟨d - 1, by omega⟩
  unfold mX12_both_123 at hm
  obtain ⟨q5, e6, hm⟩ := ob hm
  refine X_cS1 (kX12_truth d (by omega) G e6) ml_X12_374 ms_X12_truth rfl rfl (Nat.le_refl _) ⟨Nat.le_refl _, Nat.le_refl _⟩ (Nat.le_of_ble_eq_true rfl) dX12_both_123 ?_
  cases hm
  exact X_lret dX12_both_126 rfl
def mX12_both_138  (t0 : Int32) : Option (Int64) := (Option.bind (mX12_truth t0) (fun q9 => (some q9)))
set_option maxHeartbeats 400000 in
set_option maxRecDepth 100000 in
theorem kX12_both_138 {E : xE} {B : Nat} {n : Nat} {K : Nat → Nat × Nat} {P : Nat → Nat → Nat} {I : Nat → Nat → Int32} {L : Nat → Nat → Int64}   {t0 : Int32} {q : Int64} (d : Nat) (hd : 1 ≤ d) (G : GW K P)    (hm : mX12_both_138 t0 = some q) : X E B d 0 0 yX12_both cX12_both 5 (some .long) (some (.long q), (n, K, P, I, L)) 138 [] [.int t0] 0 0 (n, K, P, I, L) := by
  obtain ⟨d, rfl⟩ : ∃ d0, d = d0 + 1 := ⟨d - 1, by omega⟩
  unfold mX12_both_138 at hm
  obtain ⟨q9, e10, hm⟩ := ob hm
  refine X_cS1 (kX12_truth d (by omega) G e10) ml_X12_374 ms_X12_truth rfl rfl (Nat.le_refl _) ⟨Nat.le_refl _, Nat.le_refl _⟩ (Nat.le_of_ble_eq_true rfl) dX12_both_138 ?_
  cases hm
  exact X_lret dX12_both_141 rfl
def mX12_both_153  (t0 : Int32) : Option (Int64) := (Option.bind (mX12_truth t0) (fun q13 => (some q13)))
set_option maxHeartbeats 400000 in
set_option maxRecDepth 100000 in
theorem kX12_both_153 {E : xE} {B : Nat} {n : Nat} {K : Nat → Nat × Nat} {P : Nat → Nat → Nat} {I : Nat → Nat → Int32} {L : Nat → Nat → Int64}   {t0 : Int32} {q : Int64} (d : Nat) (hd : 1 ≤ d) (G : GW K P)    (hm : mX12_both_153 t0 = some q) : X E B d 0 0 yX12_both cX12_both 5 (some .long) (some (.long q), (n, K, P, I, L)) 153 [] [.int t0] 0 0 (n, K, P, I, L) := by
  obtain ⟨d, rfl⟩ : ∃ d0, d = d0 + 1 := ⟨d - 1, by omega⟩
  unfold mX12_both_153 at hm
  obtain ⟨q13, e14, hm⟩ := ob hm
  refine X_cS1 (kX12_truth d (by omega) G e14) ml_X12_374 ms_X12_truth rfl rfl (Nat.le_refl _) ⟨Nat.le_refl _, Nat.le_refl _⟩ (Nat.le_of_ble_eq_true rfl) dX12_both_153 ?_
  cases hm
  exact X_lret dX12_both_156 rfl
def mX12_both_168  (t0 : Int32) : Option (Int64) := (Option.bind (mX12_truth t0) (fun q17 => (some q17)))
set_option maxHeartbeats 400000 in
set_option maxRecDepth 100000 in
theorem kX12_both_168 {E : xE} {B : Nat} {n : Nat} {K : Nat → Nat × Nat} {P : Nat → Nat → Nat} {I : Nat → Nat → Int32} {L : Nat → Nat → Int64}   {t0 : Int32} {q : Int64} (d : Nat) (hd : 1 ≤ d) (G : GW K P)    (hm : mX12_both_168 t0 = some q) : X E B d 0 0 yX12_both cX12_both 5 (some .long) (some (.long q), (n, K, P, I, L)) 168 [] [.int t0] 0 0 (n, K, P, I, L) := by
  obtain ⟨d, rfl⟩ : ∃ d0, d = d0 + 1 := ⟨d - 1, by omega⟩
  unfold mX12_both_168 at hm
  obtain ⟨q17, e18, hm⟩ := ob hm
  refine X_cS1 (kX12_truth d (by omega) G e18) ml_X12_374 ms_X12_truth rfl rfl (Nat.le_refl _) ⟨Nat.le_refl _, Nat.le_refl _⟩ (Nat.le_of_ble_eq_true rfl) dX12_both_168 ?_
  cases hm
  exact X_lret dX12_both_171 rfl
def mX12_both_183  (t0 : Int32) : Option (Int64) := (Option.bind (mX12_truth t0) (fun q21 => (some q21)))
set_option maxHeartbeats 400000 in
set_option maxRecDepth 100000 in
theorem kX12_both_183 {E : xE} {B : Nat} {n : Nat} {K : Nat → Nat × Nat} {P : Nat → Nat → Nat} {I : Nat → Nat → Int32} {L : Nat → Nat → Int64}   {t0 : Int32} {q : Int64} (d : Nat) (hd : 1 ≤ d) (G : GW K P)    (hm : mX12_both_183 t0 = some q) : X E B d 0 0 yX12_both cX12_both 5 (some .long) (some (.long q), (n, K, P, I, L)) 183 [] [.int t0] 0 0 (n, K, P, I, L) := by
  obtain ⟨d, rfl⟩ : ∃ d0, d = d0 + 1 := ⟨d - 1, by omega⟩
  unfold mX12_both_183 at hm
  obtain ⟨q21, e22, hm⟩ := ob hm
  refine X_cS1 (kX12_truth d (by omega) G e22) ml_X12_374 ms_X12_truth rfl rfl (Nat.le_refl _) ⟨Nat.le_refl _, Nat.le_refl _⟩ (Nat.le_of_ble_eq_true rfl) dX12_both_183 ?_
  cases hm
  exact X_lret dX12_both_186 rfl
def mX12_both  (a0 : Int32) (a1 : Int64) (a3 : Int64) : Option (Int64) := (if a0 = (2 : Int32) then (some (a1 + a3)) else (if a0 = (3 : Int32) then (some (a1 - a3)) else (if a0 = (4 : Int32) then (if 0 ≤ (lg_cmp a1 a3) then (mX12_both_123 (0 : Int32)) else (mX12_both_123 (1 : Int32))) else (if a0 = (5 : Int32) then (if 0 < (lg_cmp a1 a3) then (mX12_both_138 (0 : Int32)) else (mX12_both_138 (1 : Int32))) else (if a0 = (6 : Int32) then (if (lg_cmp a1 a3) = 0 then (mX12_both_153 (1 : Int32)) else (mX12_both_153 (0 : Int32))) else (if a0 = (7 : Int32) then (if (lg_cmp a1 a3) < 0 then (mX12_both_168 (0 : Int32)) else (mX12_both_168 (1 : Int32))) else (if a0 = (8 : Int32) then (if (lg_cmp a1 a3) ≤ 0 then (mX12_both_183 (0 : Int32)) else (mX12_both_183 (1 : Int32))) else (if a0 = (9 : Int32) then (some (a1 ||| a3)) else (if a0 = (10 : Int32) then (some (a1 &&& a3)) else (if a0 = (11 : Int32) then (some (a1 ||| a3)) else (if a0 = (12 : Int32) then (some (a1 ||| a3)) else (if a0 = (13 : Int32) then (some (a1 * a3)) else (if a0 = (14 : Int32) then (if (lg_cmp a3 (0 : Int64)) = 0 then (some (0 : Int64)) else (if ¬ a3 = 0 then (some (a1 / a3)) else none)) else (if a0 = (15 : Int32) then (if (lg_cmp a3 (0 : Int64)) = 0 then (some (0 : Int64)) else (if ¬ a3 = 0 then (some (xlrem a1 a3)) else none)) else (some (a1 ||| a3))))))))))))))))
set_option maxHeartbeats 400000 in
set_option maxRecDepth 100000 in
theorem kX12_both {E : xE} {B : Nat} {n : Nat} {K : Nat → Nat × Nat} {P : Nat → Nat → Nat} {I : Nat → Nat → Int32} {L : Nat → Nat → Int64}  {a0 : Int32} {a1 : Int64} {a3 : Int64} {q : Int64} (d : Nat) (hd : 1 ≤ d) (G : GW K P)   (hm : mX12_both a0 a1 a3 = some q) : MX E B d 0 0 yX12_both cX12_both 5 (some .long) [.int a0, .long a1, .long a3] (n, K, P, I, L) (some (.long q), (n, K, P, I, L)) := by
  refine MX_of (lv := [(0, .int a0), (1, .long a1), (3, .long a3)]) (by decide +kernel) (Nat.le_of_ble_eq_true rfl) rfl ?_
  obtain ⟨d, rfl⟩ : ∃ d0, d = d0 + 1 := ⟨d - 1, by omega⟩
  unfold mX12_both at hm
  refine X_iload_n 0 dX12_both_0 rfl rfl ?_
  rcases Decidable.em (a0 = (2 : Int32)) with c1 | c1
  · replace hm := ip c1 hm
    refine X_swK (off := 71) (tgt := 72) c1 dX12_both_1 (by decide) (by decide) (by decide) (by decide) ?_
    refine X_lload_n 1 dX12_both_72 rfl rfl ?_
    refine X_lload_n 2 dX12_both_73 rfl rfl ?_
    refine X_ladd dX12_both_74 ?_
    cases hm
    exact X_lret dX12_both_75 rfl
  · replace hm := iq c1 hm
    rcases Decidable.em (a0 = (3 : Int32)) with c2 | c2
    · replace hm := ip c2 hm
      refine X_swK (off := 75) (tgt := 76) c2 dX12_both_1 (by decide) (by decide) (by decide) (by decide) ?_
      refine X_lload_n 1 dX12_both_76 rfl rfl ?_
      refine X_lload_n 2 dX12_both_77 rfl rfl ?_
      refine X_lsub dX12_both_78 ?_
      cases hm
      exact X_lret dX12_both_79 rfl
    · replace hm := iq c2 hm
      rcases Decidable.em (a0 = (4 : Int32)) with c3 | c3
      · replace hm := ip c3 hm
        refine X_swK (off := 111) (tgt := 112) c3 dX12_both_1 (by decide) (by decide) (by decide) (by decide) ?_
        refine X_lload_n 1 dX12_both_112 rfl rfl ?_
        refine X_lload_n 2 dX12_both_113 rfl rfl ?_
        refine X_lcmp dX12_both_114 ?_
        refine X_if_ge (tgt := 122) dX12_both_115 (by decide) (fun c4 => ?_) (fun c4 => ?_)
        · replace hm := ip c4 hm
          refine X_iconst (v := (0 : Int32)) dX12_both_122 (by decide) ?_
          exact X_lv [] rfl (kX12_both_123 _ hd G hm)
        · replace hm := iq c4 hm
          refine X_iconst (v := (1 : Int32)) dX12_both_118 (by decide) ?_
          refine X_goto (tgt := 123) dX12_both_119 (by decide) ?_
          exact X_lv [] rfl (kX12_both_123 _ hd G hm)
      · replace hm := iq c3 hm
        rcases Decidable.em (a0 = (5 : Int32)) with c7 | c7
        · replace hm := ip c7 hm
          refine X_swK (off := 126) (tgt := 127) c7 dX12_both_1 (by decide) (by decide) (by decide) (by decide) ?_
          refine X_lload_n 1 dX12_both_127 rfl rfl ?_
          refine X_lload_n 2 dX12_both_128 rfl rfl ?_
          refine X_lcmp dX12_both_129 ?_
          refine X_if_gt (tgt := 137) dX12_both_130 (by decide) (fun c8 => ?_) (fun c8 => ?_)
          · replace hm := ip c8 hm
            refine X_iconst (v := (0 : Int32)) dX12_both_137 (by decide) ?_
            exact X_lv [] rfl (kX12_both_138 _ hd G hm)
          · replace hm := iq c8 hm
            refine X_iconst (v := (1 : Int32)) dX12_both_133 (by decide) ?_
            refine X_goto (tgt := 138) dX12_both_134 (by decide) ?_
            exact X_lv [] rfl (kX12_both_138 _ hd G hm)
        · replace hm := iq c7 hm
          rcases Decidable.em (a0 = (6 : Int32)) with c11 | c11
          · replace hm := ip c11 hm
            refine X_swK (off := 141) (tgt := 142) c11 dX12_both_1 (by decide) (by decide) (by decide) (by decide) ?_
            refine X_lload_n 1 dX12_both_142 rfl rfl ?_
            refine X_lload_n 2 dX12_both_143 rfl rfl ?_
            refine X_lcmp dX12_both_144 ?_
            refine X_if_ne (tgt := 152) dX12_both_145 (by decide) (fun c12 => ?_) (fun c12 => ?_)
            · replace hm := iq c12 hm
              refine X_iconst (v := (0 : Int32)) dX12_both_152 (by decide) ?_
              exact X_lv [] rfl (kX12_both_153 _ hd G hm)
            · replace hm := ip c12 hm
              refine X_iconst (v := (1 : Int32)) dX12_both_148 (by decide) ?_
              refine X_goto (tgt := 153) dX12_both_149 (by decide) ?_
              exact X_lv [] rfl (kX12_both_153 _ hd G hm)
          · replace hm := iq c11 hm
            rcases Decidable.em (a0 = (7 : Int32)) with c15 | c15
            · replace hm := ip c15 hm
              refine X_swK (off := 156) (tgt := 157) c15 dX12_both_1 (by decide) (by decide) (by decide) (by decide) ?_
              refine X_lload_n 1 dX12_both_157 rfl rfl ?_
              refine X_lload_n 2 dX12_both_158 rfl rfl ?_
              refine X_lcmp dX12_both_159 ?_
              refine X_if_lt (tgt := 167) dX12_both_160 (by decide) (fun c16 => ?_) (fun c16 => ?_)
              · replace hm := ip c16 hm
                refine X_iconst (v := (0 : Int32)) dX12_both_167 (by decide) ?_
                exact X_lv [] rfl (kX12_both_168 _ hd G hm)
              · replace hm := iq c16 hm
                refine X_iconst (v := (1 : Int32)) dX12_both_163 (by decide) ?_
                refine X_goto (tgt := 168) dX12_both_164 (by decide) ?_
                exact X_lv [] rfl (kX12_both_168 _ hd G hm)
            · replace hm := iq c15 hm
              rcases Decidable.em (a0 = (8 : Int32)) with c19 | c19
              · replace hm := ip c19 hm
                refine X_swK (off := 171) (tgt := 172) c19 dX12_both_1 (by decide) (by decide) (by decide) (by decide) ?_
                refine X_lload_n 1 dX12_both_172 rfl rfl ?_
                refine X_lload_n 2 dX12_both_173 rfl rfl ?_
                refine X_lcmp dX12_both_174 ?_
                refine X_if_le (tgt := 182) dX12_both_175 (by decide) (fun c20 => ?_) (fun c20 => ?_)
                · replace hm := ip c20 hm
                  refine X_iconst (v := (0 : Int32)) dX12_both_182 (by decide) ?_
                  exact X_lv [] rfl (kX12_both_183 _ hd G hm)
                · replace hm := iq c20 hm
                  refine X_iconst (v := (1 : Int32)) dX12_both_178 (by decide) ?_
                  refine X_goto (tgt := 183) dX12_both_179 (by decide) ?_
                  exact X_lv [] rfl (kX12_both_183 _ hd G hm)
              · replace hm := iq c19 hm
                rcases Decidable.em (a0 = (9 : Int32)) with c23 | c23
                · replace hm := ip c23 hm
                  refine X_swK (off := 190) (tgt := 191) c23 dX12_both_1 (by decide) (by decide) (by decide) (by decide) ?_
                  refine X_lload_n 1 dX12_both_191 rfl rfl ?_
                  refine X_lload_n 2 dX12_both_192 rfl rfl ?_
                  refine X_lor dX12_both_193 ?_
                  cases hm
                  exact X_lret dX12_both_194 rfl
                · replace hm := iq c23 hm
                  rcases Decidable.em (a0 = (10 : Int32)) with c24 | c24
                  · replace hm := ip c24 hm
                    refine X_swK (off := 186) (tgt := 187) c24 dX12_both_1 (by decide) (by decide) (by decide) (by decide) ?_
                    refine X_lload_n 1 dX12_both_187 rfl rfl ?_
                    refine X_lload_n 2 dX12_both_188 rfl rfl ?_
                    refine X_land dX12_both_189 ?_
                    cases hm
                    exact X_lret dX12_both_190 rfl
                  · replace hm := iq c24 hm
                    rcases Decidable.em (a0 = (11 : Int32)) with c25 | c25
                    · replace hm := ip c25 hm
                      refine X_swK (off := 190) (tgt := 191) c25 dX12_both_1 (by decide) (by decide) (by decide) (by decide) ?_
                      refine X_lload_n 1 dX12_both_191 rfl rfl ?_
                      refine X_lload_n 2 dX12_both_192 rfl rfl ?_
                      refine X_lor dX12_both_193 ?_
                      cases hm
                      exact X_lret dX12_both_194 rfl
                    · replace hm := iq c25 hm
                      rcases Decidable.em (a0 = (12 : Int32)) with c26 | c26
                      · replace hm := ip c26 hm
                        refine X_swK (off := 190) (tgt := 191) c26 dX12_both_1 (by decide) (by decide) (by decide) (by decide) ?_
                        refine X_lload_n 1 dX12_both_191 rfl rfl ?_
                        refine X_lload_n 2 dX12_both_192 rfl rfl ?_
                        refine X_lor dX12_both_193 ?_
                        cases hm
                        exact X_lret dX12_both_194 rfl
                      · replace hm := iq c26 hm
                        rcases Decidable.em (a0 = (13 : Int32)) with c27 | c27
                        · replace hm := ip c27 hm
                          refine X_swK (off := 79) (tgt := 80) c27 dX12_both_1 (by decide) (by decide) (by decide) (by decide) ?_
                          refine X_lload_n 1 dX12_both_80 rfl rfl ?_
                          refine X_lload_n 2 dX12_both_81 rfl rfl ?_
                          refine X_lmul dX12_both_82 ?_
                          cases hm
                          exact X_lret dX12_both_83 rfl
                        · replace hm := iq c27 hm
                          rcases Decidable.em (a0 = (14 : Int32)) with c28 | c28
                          · replace hm := ip c28 hm
                            refine X_swK (off := 83) (tgt := 84) c28 dX12_both_1 (by decide) (by decide) (by decide) (by decide) ?_
                            refine X_lload_n 2 dX12_both_84 rfl rfl ?_
                            refine X_lconst (v := (0 : Int64)) dX12_both_85 (by decide) ?_
                            refine X_lcmp dX12_both_86 ?_
                            refine X_if_ne (tgt := 94) dX12_both_87 (by decide) (fun c29 => ?_) (fun c29 => ?_)
                            · replace hm := iq c29 hm
                              refine X_lload_n 1 dX12_both_94 rfl rfl ?_
                              refine X_lload_n 2 dX12_both_95 rfl rfl ?_
                              obtain ⟨g30, hm⟩ := og hm
                              refine X_ldiv dX12_both_96 g30 ?_
                              cases hm
                              exact X_lret dX12_both_97 rfl
                            · replace hm := ip c29 hm
                              refine X_lconst (v := (0 : Int64)) dX12_both_90 (by decide) ?_
                              refine X_goto (tgt := 97) dX12_both_91 (by decide) ?_
                              cases hm
                              exact X_lret dX12_both_97 rfl
                          · replace hm := iq c28 hm
                            rcases Decidable.em (a0 = (15 : Int32)) with c31 | c31
                            · replace hm := ip c31 hm
                              refine X_swK (off := 97) (tgt := 98) c31 dX12_both_1 (by decide) (by decide) (by decide) (by decide) ?_
                              refine X_lload_n 2 dX12_both_98 rfl rfl ?_
                              refine X_lconst (v := (0 : Int64)) dX12_both_99 (by decide) ?_
                              refine X_lcmp dX12_both_100 ?_
                              refine X_if_ne (tgt := 108) dX12_both_101 (by decide) (fun c32 => ?_) (fun c32 => ?_)
                              · replace hm := iq c32 hm
                                refine X_lload_n 1 dX12_both_108 rfl rfl ?_
                                refine X_lload_n 2 dX12_both_109 rfl rfl ?_
                                obtain ⟨g33, hm⟩ := og hm
                                refine X_lrem dX12_both_110 g33 ?_
                                cases hm
                                exact X_lret dX12_both_111 rfl
                              · replace hm := ip c32 hm
                                refine X_lconst (v := (0 : Int64)) dX12_both_104 (by decide) ?_
                                refine X_goto (tgt := 111) dX12_both_105 (by decide) ?_
                                cases hm
                                exact X_lret dX12_both_111 rfl
                            · replace hm := iq c31 hm
                              refine X_tableOut (tgt := 191) dX12_both_1 (sw_out 14 (by decide) (fun i hi => by
                                have hi2 : i = 0 ∨ i = 1 ∨ i = 2 ∨ i = 3 ∨ i = 4 ∨ i = 5 ∨ i = 6 ∨ i = 7 ∨ i = 8 ∨ i = 9 ∨ i = 10 ∨ i = 11 ∨ i = 12 ∨ i = 13 := by omega
                                rcases hi2 with rfl | rfl | rfl | rfl | rfl | rfl | rfl | rfl | rfl | rfl | rfl | rfl | rfl | rfl
                                · exact c1
                                · exact c2
                                · exact c3
                                · exact c7
                                · exact c11
                                · exact c15
                                · exact c19
                                · exact c23
                                · exact c24
                                · exact c25
                                · exact c26
                                · exact c27
                                · exact c28
                                · exact c31)) (by decide) ?_
                              refine X_lload_n 1 dX12_both_191 rfl rfl ?_
                              refine X_lload_n 2 dX12_both_192 rfl rfl ?_
                              refine X_lor dX12_both_193 ?_
                              cases hm
                              exact X_lret dX12_both_194 rfl

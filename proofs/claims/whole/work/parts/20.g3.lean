def mJ9_max_7cf53  (a0 : Int32) (a1 : Int32) : Option (Int32) := (if a0 < a1 then (some a1) else (some a0))
set_option maxHeartbeats 400000 in
set_option maxRecDepth 100000 in
theorem kJ9_max_7cf53 {E : xE} {B : Nat} {n : Nat} {K : Nat → Nat × Nat} {P : Nat → Nat → Nat} {I : Nat → Nat → Int32} {L : Nat → Nat → Int64}  {a0 : Int32} {a1 : Int32} {q : Int32} (d : Nat) (hd : 0 ≤ d) (G : GW K P)   (hm : mJ9_max_7cf53 a0 a1 = some q) : MX E B d 0 0 yJ9_max_7cf53 cJ9_max_7cf53 2 (some .int) [.int a0, .int a1] (n, K, P, I, L) (some (.int q), (n, K, P, I, L)) := by
  refine MX_ofJ (lv := [(0, .int a0), (1, .int a1)]) (by decide +kernel) (Nat.le_of_ble_eq_true rfl) rfl ?_
  unfold mJ9_max_7cf53 at hm
  refine X_iload_n 0 dJ9_max_7cf53_0 rfl rfl ?_
  refine X_iload_n 1 dJ9_max_7cf53_1 rfl rfl ?_
  refine X_icmp_lt (tgt := 9) dJ9_max_7cf53_2 (by decide) (fun c1 => ?_) (fun c1 => ?_)
  · replace hm := ip c1 hm
    refine X_iload_n 1 dJ9_max_7cf53_9 rfl rfl ?_
    replace hm := Option.some.inj hm
    subst hm
    exact X_iret dJ9_max_7cf53_10 rfl
  · replace hm := iq c1 hm
    refine X_iload_n 0 dJ9_max_7cf53_5 rfl rfl ?_
    refine X_goto (tgt := 10) dJ9_max_7cf53_6 (by decide) ?_
    replace hm := Option.some.inj hm
    subst hm
    exact X_iret dJ9_max_7cf53_10 rfl
def mJ0_coder_7d493  (a0 : Nat) : Option (Int32) := (some (0 : Int32))
set_option maxHeartbeats 400000 in
set_option maxRecDepth 100000 in
theorem kJ0_coder_7d493 {E : xE} {B : Nat} {n : Nat} {K : Nat → Nat × Nat} {P : Nat → Nat → Nat} {I : Nat → Nat → Int32} {L : Nat → Nat → Int64}  {a0 : Nat} {q : Int32} (d : Nat) (hd : 0 ≤ d) (G : GW K P)  (h0 : a0 < 24) (hm : mJ0_coder_7d493 a0 = some q) : MX E B d 0 0 yJ0_coder_7d493 cJ0_coder_7d493 1 (some .byte) [.retAddr a0] (n, K, P, I, L) (some (.int q), (n, K, P, I, L)) := by
  refine MX_ofJ (lv := [(0, .retAddr a0)]) (by decide +kernel) (Nat.le_of_ble_eq_true rfl) rfl ?_
  unfold mJ0_coder_7d493 at hm
  refine X_sCS fs_J0_38 dJ0_coder_7d493_0 ?_
  refine X_if_eq (tgt := 13) dJ0_coder_7d493_3 (by decide) (fun c => absurd c (by decide)) (fun _ => ?_)
  refine X_aload_n 0 dJ0_coder_7d493_6 rfl rfl rfl ?_
  refine X_sCod h0 fs_J0_15 dJ0_coder_7d493_7 ?_
  refine X_goto (tgt := 14) dJ0_coder_7d493_10 (by decide) ?_
  replace hm := Option.some.inj hm
  subst hm
  exact X_zret dJ0_coder_7d493_14 rfl rfl
def mJ0_length_8abf5  (a0 : Nat) : Option (Int32) := (some (xshr (nI (xSl.getD a0 0)) (0 : Int32)))
set_option maxHeartbeats 400000 in
set_option maxRecDepth 100000 in
theorem kJ0_length_8abf5 {E : xE} {B : Nat} {n : Nat} {K : Nat → Nat × Nat} {P : Nat → Nat → Nat} {I : Nat → Nat → Int32} {L : Nat → Nat → Int64}  {a0 : Nat} {q : Int32} (d : Nat) (hd : 1 ≤ d) (G : GW K P)  (h0 : a0 < 24) (hm : mJ0_length_8abf5 a0 = some q) : MX E B d 0 0 yJ0_length_8abf5 cJ0_length_8abf5 1 (some .int) [.retAddr a0] (n, K, P, I, L) (some (.int q), (n, K, P, I, L)) := by
  refine MX_ofJ (lv := [(0, .retAddr a0)]) (by decide +kernel) (Nat.le_of_ble_eq_true rfl) rfl ?_
  obtain ⟨d, rfl⟩ : ∃ d0, d = d0 + 1 := ⟨d - 1, by omega⟩
  unfold mJ0_length_8abf5 at hm
  refine X_aload_n 0 dJ0_length_8abf5_0 rfl rfl rfl ?_
  refine X_sVal h0 fs_J0_9 dJ0_length_8abf5_1 ?_
  refine X_sLen h0 dJ0_length_8abf5_4 ?_
  refine X_aload_n 0 dJ0_length_8abf5_5 rfl rfl rfl ?_
  refine X_cT1 (v := .int (0 : Int32)) (kJ0_coder_7d493 d (by omega) G h0 rfl) ml_J0_335 mi_J0_coder_7d493 rfl h0 rfl rfl (Nat.le_refl _) ⟨Nat.le_refl _, Nat.le_refl _⟩ (Nat.le_of_ble_eq_true rfl) dJ0_length_8abf5_6 ?_
  refine X_ishr dJ0_length_8abf5_9 ?_
  replace hm := Option.some.inj hm
  subst hm
  exact X_iret dJ0_length_8abf5_10 rfl
def mJ0_isLatin1_aae02  (a0 : Nat) : Option (Int32) := (some (1 : Int32))
set_option maxHeartbeats 400000 in
set_option maxRecDepth 100000 in
theorem kJ0_isLatin1_aae02 {E : xE} {B : Nat} {n : Nat} {K : Nat → Nat × Nat} {P : Nat → Nat → Nat} {I : Nat → Nat → Int32} {L : Nat → Nat → Int64}  {a0 : Nat} {q : Int32} (d : Nat) (hd : 0 ≤ d) (G : GW K P)  (h0 : a0 < 24) (hm : mJ0_isLatin1_aae02 a0 = some q) : MX E B d 0 0 yJ0_isLatin1_aae02 cJ0_isLatin1_aae02 1 (some .boolean) [.retAddr a0] (n, K, P, I, L) (some (.int q), (n, K, P, I, L)) := by
  refine MX_ofJ (lv := [(0, .retAddr a0)]) (by decide +kernel) (Nat.le_of_ble_eq_true rfl) rfl ?_
  unfold mJ0_isLatin1_aae02 at hm
  refine X_sCS fs_J0_38 dJ0_isLatin1_aae02_0 ?_
  refine X_if_eq (tgt := 17) dJ0_isLatin1_aae02_3 (by decide) (fun c => absurd c (by decide)) (fun _ => ?_)
  refine X_aload_n 0 dJ0_isLatin1_aae02_6 rfl rfl rfl ?_
  refine X_sCod h0 fs_J0_15 dJ0_isLatin1_aae02_7 ?_
  refine X_if_ne (tgt := 17) dJ0_isLatin1_aae02_10 (by decide) (fun c => absurd c (by decide)) (fun _ => ?_)
  refine X_iconst (v := (1 : Int32)) dJ0_isLatin1_aae02_13 (by decide) ?_
  refine X_goto (tgt := 18) dJ0_isLatin1_aae02_14 (by decide) ?_
  replace hm := Option.some.inj hm
  subst hm
  exact X_zret (v := (1 : Int32)) dJ0_isLatin1_aae02_18 rfl (x_nz (Or.inr rfl))
def mJ3_checkIndex_8e157  (a0 : Int32) (a1 : Int32) : Option (Int32) := (if a0 < 0 then none else (if a0 < a1 then (some a0) else none))
set_option maxHeartbeats 400000 in
set_option maxRecDepth 100000 in
theorem kJ3_checkIndex_8e157 {E : xE} {B : Nat} {n : Nat} {K : Nat → Nat × Nat} {P : Nat → Nat → Nat} {I : Nat → Nat → Int32} {L : Nat → Nat → Int64}  {a0 : Int32} {a1 : Int32} {q : Int32} (d : Nat) (hd : 0 ≤ d) (G : GW K P)   (hm : mJ3_checkIndex_8e157 a0 a1 = some q) : MX E B d 0 0 yJ3_checkIndex_8e157 cJ3_checkIndex_8e157 3 (some .int) [.int a0, .int a1, .retAddr 50] (n, K, P, I, L) (some (.int q), (n, K, P, I, L)) := by
  refine MX_ofJ (lv := [(0, .int a0), (1, .int a1), (2, .retAddr 50)]) (by decide +kernel) (Nat.le_of_ble_eq_true rfl) rfl ?_
  unfold mJ3_checkIndex_8e157 at hm
  refine X_iload_n 0 dJ3_checkIndex_8e157_0 rfl rfl ?_
  refine X_if_lt (tgt := 9) dJ3_checkIndex_8e157_1 (by decide) (fun c1 => ?_) (fun c1 => ?_)
  · replace hm := ip c1 hm
    exact nomatch hm
  · replace hm := iq c1 hm
    refine X_iload_n 0 dJ3_checkIndex_8e157_4 rfl rfl ?_
    refine X_iload_n 1 dJ3_checkIndex_8e157_5 rfl rfl ?_
    refine X_icmp_lt (tgt := 16) dJ3_checkIndex_8e157_6 (by decide) (fun c2 => ?_) (fun c2 => ?_)
    · replace hm := ip c2 hm
      refine X_iload_n 0 dJ3_checkIndex_8e157_16 rfl rfl ?_
      replace hm := Option.some.inj hm
      subst hm
      exact X_iret dJ3_checkIndex_8e157_17 rfl
    · replace hm := iq c2 hm
      exact nomatch hm
def mJ0_checkIndex_df160  (a0 : Int32) (a1 : Int32) : Option (Unit) := (Option.bind (mJ3_checkIndex_8e157 a0 a1) (fun q1 => (some ())))
set_option maxHeartbeats 400000 in
set_option maxRecDepth 100000 in
theorem kJ0_checkIndex_df160 {E : xE} {B : Nat} {n : Nat} {K : Nat → Nat × Nat} {P : Nat → Nat → Nat} {I : Nat → Nat → Int32} {L : Nat → Nat → Int64}  {a0 : Int32} {a1 : Int32} {q : Unit} (d : Nat) (hd : 1 ≤ d) (G : GW K P)   (hm : mJ0_checkIndex_df160 a0 a1 = some q) : MX E B d 0 0 yJ0_checkIndex_df160 cJ0_checkIndex_df160 2 (none : Option Jvm.ClassFile.FieldType) [.int a0, .int a1] (n, K, P, I, L) (none, (n, K, P, I, L)) := by
  refine MX_ofJ (lv := [(0, .int a0), (1, .int a1)]) (by decide +kernel) (Nat.le_of_ble_eq_true rfl) rfl ?_
  obtain ⟨d, rfl⟩ : ∃ d0, d = d0 + 1 := ⟨d - 1, by omega⟩
  unfold mJ0_checkIndex_df160 at hm
  refine X_iload_n 0 dJ0_checkIndex_df160_0 rfl rfl ?_
  refine X_iload_n 1 dJ0_checkIndex_df160_1 rfl rfl ?_
  refine X_sFm fs_J0_1053 dJ0_checkIndex_df160_2 ?_
  obtain ⟨q1, e2, hm⟩ := ob hm
  refine X_cS1 (kJ3_checkIndex_8e157 d (by omega) G e2) ml_J0_1059 ms_J3_checkIndex_8e157 rfl rfl (Nat.le_refl _) ⟨Nat.le_refl _, Nat.le_refl _⟩ (Nat.le_of_ble_eq_true rfl) dJ0_checkIndex_df160_5 ?_
  refine X_pop dJ0_checkIndex_df160_8 rfl ?_
  replace hm := Option.some.inj hm
  subst hm
  exact X_vret dJ0_checkIndex_df160_9 rfl
def mJ1_charAt_3b067  (a0 : Nat) (a1 : Int32) : Option (Int32) := (Option.bind (mJ0_checkIndex_df160 a1 (nI (xSl.getD a0 0))) (fun q1 => (if inb a1 (xSl.getD a0 0) = true then (some (xi2c (((xSb.getD a0 []).getD (ix a1) 0) &&& (255 : Int32)))) else none)))
set_option maxHeartbeats 400000 in
set_option maxRecDepth 100000 in
theorem kJ1_charAt_3b067 {E : xE} {B : Nat} {n : Nat} {K : Nat → Nat × Nat} {P : Nat → Nat → Nat} {I : Nat → Nat → Int32} {L : Nat → Nat → Int64}  {a0 : Nat} {a1 : Int32} {q : Int32} (d : Nat) (hd : 2 ≤ d) (G : GW K P)  (h0 : a0 < 24) (hm : mJ1_charAt_3b067 a0 a1 = some q) : MX E B d 0 0 yJ1_charAt_3b067 cJ1_charAt_3b067 2 (some .char) [.retAddr (100 + a0), .int a1] (n, K, P, I, L) (some (.int q), (n, K, P, I, L)) := by
  refine MX_ofJ (lv := [(0, .retAddr (100 + a0)), (1, .int a1)]) (by decide +kernel) (Nat.le_of_ble_eq_true rfl) rfl ?_
  obtain ⟨d, rfl⟩ : ∃ d0, d = d0 + 1 := ⟨d - 1, by omega⟩
  unfold mJ1_charAt_3b067 at hm
  refine X_iload_n 1 dJ1_charAt_3b067_0 rfl rfl ?_
  refine X_aload_n 0 dJ1_charAt_3b067_1 rfl rfl rfl ?_
  refine X_sLen h0 dJ1_charAt_3b067_2 ?_
  obtain ⟨q1, e2, hm⟩ := ob hm
  refine X_cS0 (kJ0_checkIndex_df160 d (by omega) G e2) ml_J1_9 ms_J0_checkIndex_df160 rfl rfl (Nat.le_refl _) ⟨Nat.le_refl _, Nat.le_refl _⟩ (Nat.le_of_ble_eq_true rfl) dJ1_charAt_3b067_3 ?_
  refine X_aload_n 0 dJ1_charAt_3b067_6 rfl rfl rfl ?_
  refine X_iload_n 1 dJ1_charAt_3b067_7 rfl rfl ?_
  obtain ⟨g3, hm⟩ := og hm
  refine X_sAt h0 g3 dJ1_charAt_3b067_8 ?_
  refine X_sipush (v := (255 : Int32)) dJ1_charAt_3b067_9 (by decide) ?_
  refine X_iand dJ1_charAt_3b067_12 ?_
  refine X_i2c dJ1_charAt_3b067_13 ?_
  replace hm := Option.some.inj hm
  subst hm
  exact X_zret dJ1_charAt_3b067_14 rfl (x_nc _)
def mJ0_charAt_5068e  (a0 : Nat) (a1 : Int32) : Option (Int32) := (Option.bind (mJ1_charAt_3b067 a0 a1) (fun q4 => (if xi2c q4 = q4 then (some q4) else none)))
set_option maxHeartbeats 400000 in
set_option maxRecDepth 100000 in
theorem kJ0_charAt_5068e {E : xE} {B : Nat} {n : Nat} {K : Nat → Nat × Nat} {P : Nat → Nat → Nat} {I : Nat → Nat → Int32} {L : Nat → Nat → Int64}  {a0 : Nat} {a1 : Int32} {q : Int32} (d : Nat) (hd : 4 ≤ d) (G : GW K P)  (h0 : a0 < 24) (hm : mJ0_charAt_5068e a0 a1 = some q) : MX E B d 0 0 yJ0_charAt_5068e cJ0_charAt_5068e 2 (some .char) [.retAddr a0, .int a1] (n, K, P, I, L) (some (.int q), (n, K, P, I, L)) := by
  refine MX_ofJ (lv := [(0, .retAddr a0), (1, .int a1)]) (by decide +kernel) (Nat.le_of_ble_eq_true rfl) rfl ?_
  obtain ⟨d, rfl⟩ : ∃ d0, d = d0 + 1 := ⟨d - 1, by omega⟩
  unfold mJ0_charAt_5068e at hm
  refine X_aload_n 0 dJ0_charAt_5068e_0 rfl rfl rfl ?_
  refine X_cT1 (v := .int (1 : Int32)) (kJ0_isLatin1_aae02 d (by omega) G h0 rfl) ml_J0_492 mi_J0_isLatin1_aae02 rfl h0 rfl rfl (Nat.le_refl _) ⟨Nat.le_refl _, Nat.le_refl _⟩ (Nat.le_of_ble_eq_true rfl) dJ0_charAt_5068e_1 ?_
  refine X_if_eq (tgt := 16) dJ0_charAt_5068e_4 (by decide) (fun c => absurd c (by decide)) (fun _ => ?_)
  refine X_aload_n 0 dJ0_charAt_5068e_7 rfl rfl rfl ?_
  refine X_sVal h0 fs_J0_9 dJ0_charAt_5068e_8 ?_
  refine X_iload_n 1 dJ0_charAt_5068e_11 rfl rfl ?_
  obtain ⟨q4, e5, hm⟩ := ob hm
  refine X_cS1 (kJ1_charAt_3b067 d (by omega) G h0 e5) ml_J0_495 ms_J1_charAt_3b067 rfl rfl (Nat.le_refl _) ⟨Nat.le_refl _, Nat.le_refl _⟩ (Nat.le_of_ble_eq_true rfl) dJ0_charAt_5068e_12 ?_
  obtain ⟨g6, hm⟩ := og hm
  replace hm := Option.some.inj hm
  subst hm
  exact X_zret dJ0_charAt_5068e_15 rfl (x_ng g6)
def mX9_isSame_3 (I : Nat → Nat → Int32)  : Nat → Nat → Nat → Int32 → Int32 → Int32 → Int32 → Option (Int32)
  | 0, _, _, _, _, _, _ => none
  | f + 1, a0, z0, a1, a2, a3, a4 => (if a3 ≤ a4 then (some (1 : Int32)) else (if inb ((a1 + a4) - a2) z0 = true then (Option.bind (mJ0_charAt_5068e 0 a4) (fun q3 => (if (I a0 (ix ((a1 + a4) - a2))) = q3 then (mX9_isSame_3 I f a0 z0 a1 a2 a3 (a4 + 1)) else (some (0 : Int32))))) else none))
set_option maxHeartbeats 400000 in
set_option maxRecDepth 100000 in
theorem kX9_isSame_3 {E : xE} {B : Nat} {n : Nat} {K : Nat → Nat × Nat} {P : Nat → Nat → Nat} {I : Nat → Nat → Int32} {L : Nat → Nat → Int64}   {q : Int32} (d : Nat) (hd : 5 ≤ d) (G : GW K P)   : ∀ (f : Nat) (a0 : Nat) (z0 : Nat) (a1 : Int32) (a2 : Int32) (a3 : Int32) (a4 : Int32), K a0 = (22, z0) → mX9_isSame_3 I f a0 z0 a1 a2 a3 a4 = some q → X E B d 0 0 yX9_isSame cX9_isSame 5 (some .boolean) (some (.int q), (n, K, P, I, L)) 3 [(0, .ref a0), (1, .int a1), (2, .int a2), (3, .int a3), (4, .int a4)] [] 0 0 (n, K, P, I, L) := by
  obtain ⟨d, rfl⟩ : ∃ d0, d = d0 + 1 := ⟨d - 1, by omega⟩
  intro f
  induction f with
  | zero => intro _ _ _ _ _ _ _ hm; exact nomatch (show (none : Option (Int32)) = some q from hm)
  | succ f ih =>
    intro a0 z0 a1 a2 a3 a4 h0 hm
    rw [mX9_isSame_3] at hm
    refine X_iload 4 dX9_isSame_3 rfl ?_
    refine X_iload_n 3 dX9_isSame_5 rfl rfl ?_
    refine X_icmp_ge (tgt := 35) dX9_isSame_6 (by decide) (fun c1 => ?_) (fun c1 => ?_)
    · replace hm := ip c1 hm
      refine X_iconst (v := (1 : Int32)) dX9_isSame_35 (by decide) ?_
      replace hm := Option.some.inj hm
      subst hm
      exact X_zret (v := (1 : Int32)) dX9_isSame_36 rfl (x_nz (Or.inr rfl))
    · replace hm := iq c1 hm
      refine X_aload_n 0 dX9_isSame_9 rfl rfl rfl ?_
      refine X_iload_n 1 dX9_isSame_10 rfl rfl ?_
      refine X_iload 4 dX9_isSame_11 rfl ?_
      refine X_iadd dX9_isSame_13 ?_
      refine X_iload_n 2 dX9_isSame_14 rfl rfl ?_
      refine X_isub dX9_isSame_15 ?_
      obtain ⟨g2, hm⟩ := og hm
      refine X_baldJ h0 g2 rfl dX9_isSame_16 ?_
      refine X_ldcS (i := 0) rfl (by decide) dX9_isSame_17 ?_
      refine X_iload 4 dX9_isSame_19 rfl ?_
      obtain ⟨q3, e4, hm⟩ := ob hm
      refine X_cT1 (kJ0_charAt_5068e d (by omega) G (by decide) e4) ml_X9_75 mi_J0_charAt_5068e rfl (by decide) rfl rfl (Nat.le_refl _) ⟨Nat.le_refl _, Nat.le_refl _⟩ (Nat.le_of_ble_eq_true rfl) dX9_isSame_21 ?_
      refine X_icmp_eq (tgt := 29) dX9_isSame_24 (by decide) (fun c5 => ?_) (fun c5 => ?_)
      · replace hm := ip c5 hm
        refine X_iinc (lv' := [(4, .int (a4 + 1)), (0, .ref a0), (1, .int a1), (2, .int a2), (3, .int a3)]) 4 dX9_isSame_29 rfl rfl (by decide) rfl ?_
        refine X_goto (tgt := 3) dX9_isSame_32 (by decide) ?_
        exact X_lv [1, 2, 3, 4, 0] rfl (ih _ _ _ _ _ _ h0 hm)
      · replace hm := iq c5 hm
        refine X_iconst (v := (0 : Int32)) dX9_isSame_27 (by decide) ?_
        replace hm := Option.some.inj hm
        subst hm
        exact X_zret (v := (0 : Int32)) dX9_isSame_28 rfl (x_nz (Or.inl rfl))
def mX9_isSame (I : Nat → Nat → Int32) (a0 : Nat) (z0 : Nat) (a1 : Int32) (a2 : Int32) (a3 : Int32) : Option (Int32) := (mX9_isSame_3 I xf a0 z0 a1 a2 a3 a2)
set_option maxHeartbeats 400000 in
set_option maxRecDepth 100000 in
theorem kX9_isSame {E : xE} {B : Nat} {n : Nat} {K : Nat → Nat × Nat} {P : Nat → Nat → Nat} {I : Nat → Nat → Int32} {L : Nat → Nat → Int64}  {a0 : Nat} {z0 : Nat} {a1 : Int32} {a2 : Int32} {a3 : Int32} {q : Int32} (d : Nat) (hd : 5 ≤ d) (G : GW K P)  (h0 : K a0 = (22, z0)) (hm : mX9_isSame I a0 z0 a1 a2 a3 = some q) : MX E B d 0 0 yX9_isSame cX9_isSame 5 (some .boolean) [.ref a0, .int a1, .int a2, .int a3] (n, K, P, I, L) (some (.int q), (n, K, P, I, L)) := by
  refine MX_of (lv := [(0, .ref a0), (1, .int a1), (2, .int a2), (3, .int a3)]) (by decide +kernel) (Nat.le_of_ble_eq_true rfl) rfl ?_
  obtain ⟨d, rfl⟩ : ∃ d0, d = d0 + 1 := ⟨d - 1, by omega⟩
  unfold mX9_isSame at hm
  refine X_iload_n 2 dX9_isSame_0 rfl rfl ?_
  refine X_istore (lv' := [(4, .int a2), (0, .ref a0), (1, .int a1), (2, .int a2), (3, .int a3)]) dX9_isSame_1 (by decide) rfl ?_
  refine X_lv [1, 2, 3, 4, 0] rfl (kX9_isSame_3 _ hd G xf _ _ _ _ _ _ h0 hm)
def mX9_wordKind_8 (I : Nat → Nat → Int32)  : Nat → Nat → Nat → Int32 → Int32 → Int32 → Int32 → Int32 → Option (Int32)
  | 0, _, _, _, _, _, _, _ => none
  | f + 1, a0, z0, a1, a2, a3, a4, a5 => (Option.bind (mJ0_length_8abf5 0) (fun q1 => (if q1 ≤ a5 then (some (37 : Int32)) else (Option.bind (mJ0_charAt_5068e 0 a5) (fun q4 => (if q4 = (32 : Int32) then (if (a5 - a4) = (a2 - a1) then (Option.bind (mX9_isSame I a0 z0 a1 a4 a5) (fun q8 => (if q8 = 0 then (mX9_wordKind_8 I f a0 z0 a1 a2 (a3 + 1) (a5 + (1 : Int32)) (a5 + 1)) else (some a3)))) else (mX9_wordKind_8 I f a0 z0 a1 a2 (a3 + 1) (a5 + (1 : Int32)) (a5 + 1))) else (mX9_wordKind_8 I f a0 z0 a1 a2 a3 a4 (a5 + 1))))))))
set_option maxHeartbeats 400000 in
set_option maxRecDepth 100000 in
theorem kX9_wordKind_8 {E : xE} {B : Nat} {n : Nat} {K : Nat → Nat × Nat} {P : Nat → Nat → Nat} {I : Nat → Nat → Int32} {L : Nat → Nat → Int64}   {q : Int32} (d : Nat) (hd : 6 ≤ d) (G : GW K P)   : ∀ (f : Nat) (a0 : Nat) (z0 : Nat) (a1 : Int32) (a2 : Int32) (a3 : Int32) (a4 : Int32) (a5 : Int32), K a0 = (22, z0) → mX9_wordKind_8 I f a0 z0 a1 a2 a3 a4 a5 = some q → X E B d 0 0 yX9_wordKind cX9_wordKind 6 (some .int) (some (.int q), (n, K, P, I, L)) 8 [(0, .ref a0), (1, .int a1), (2, .int a2), (3, .int a3), (4, .int a4), (5, .int a5)] [] 0 0 (n, K, P, I, L) := by
  obtain ⟨d, rfl⟩ : ∃ d0, d = d0 + 1 := ⟨d - 1, by omega⟩
  intro f
  induction f with
  | zero => intro _ _ _ _ _ _ _ _ hm; exact nomatch (show (none : Option (Int32)) = some q from hm)
  | succ f ih =>
    intro a0 z0 a1 a2 a3 a4 a5 h0 hm
    rw [mX9_wordKind_8] at hm
    refine X_iload 5 dX9_wordKind_8 rfl ?_
    refine X_ldcS (i := 0) rfl (by decide) dX9_wordKind_10 ?_
    obtain ⟨q1, e2, hm⟩ := ob hm
    refine X_cT1 (kJ0_length_8abf5 d (by omega) G (by decide) e2) ml_X9_71 mi_J0_length_8abf5 rfl (by decide) rfl rfl (Nat.le_refl _) ⟨Nat.le_refl _, Nat.le_refl _⟩ (Nat.le_of_ble_eq_true rfl) dX9_wordKind_12 ?_
    refine X_icmp_ge (tgt := 70) dX9_wordKind_15 (by decide) (fun c3 => ?_) (fun c3 => ?_)
    · replace hm := ip c3 hm
      refine X_bipush (v := (37 : Int32)) dX9_wordKind_70 (by decide) ?_
      replace hm := Option.some.inj hm
      subst hm
      exact X_iret dX9_wordKind_72 rfl
    · replace hm := iq c3 hm
      refine X_ldcS (i := 0) rfl (by decide) dX9_wordKind_18 ?_
      refine X_iload 5 dX9_wordKind_20 rfl ?_
      obtain ⟨q4, e5, hm⟩ := ob hm
      refine X_cT1 (kJ0_charAt_5068e d (by omega) G (by decide) e5) ml_X9_75 mi_J0_charAt_5068e rfl (by decide) rfl rfl (Nat.le_refl _) ⟨Nat.le_refl _, Nat.le_refl _⟩ (Nat.le_of_ble_eq_true rfl) dX9_wordKind_22 ?_
      refine X_bipush (v := (32 : Int32)) dX9_wordKind_25 (by decide) ?_
      refine X_icmp_ne (tgt := 64) dX9_wordKind_27 (by decide) (fun c6 => ?_) (fun c6 => ?_)
      · replace hm := iq c6 hm
        refine X_iinc (lv' := [(5, .int (a5 + 1)), (0, .ref a0), (1, .int a1), (2, .int a2), (3, .int a3), (4, .int a4)]) 5 dX9_wordKind_64 rfl rfl (by decide) rfl ?_
        refine X_goto (tgt := 8) dX9_wordKind_67 (by decide) ?_
        exact X_lv [1, 2, 3, 4, 5, 0] rfl (ih _ _ _ _ _ _ _ h0 hm)
      · replace hm := ip c6 hm
        refine X_iload 5 dX9_wordKind_30 rfl ?_
        refine X_iload 4 dX9_wordKind_32 rfl ?_
        refine X_isub dX9_wordKind_34 ?_
        refine X_iload_n 2 dX9_wordKind_35 rfl rfl ?_
        refine X_iload_n 1 dX9_wordKind_36 rfl rfl ?_
        refine X_isub dX9_wordKind_37 ?_
        refine X_icmp_ne (tgt := 55) dX9_wordKind_38 (by decide) (fun c7 => ?_) (fun c7 => ?_)
        · replace hm := iq c7 hm
          refine X_iinc (lv' := [(3, .int (a3 + 1)), (0, .ref a0), (1, .int a1), (2, .int a2), (4, .int a4), (5, .int a5)]) 3 dX9_wordKind_55 rfl rfl (by decide) rfl ?_
          refine X_iload 5 dX9_wordKind_58 rfl ?_
          refine X_iconst (v := (1 : Int32)) dX9_wordKind_60 (by decide) ?_
          refine X_iadd dX9_wordKind_61 ?_
          refine X_istore (lv' := [(4, .int (a5 + (1 : Int32))), (3, .int (a3 + 1)), (0, .ref a0), (1, .int a1), (2, .int a2), (5, .int a5)]) dX9_wordKind_62 (by decide) rfl ?_
          refine X_iinc (lv' := [(5, .int (a5 + 1)), (4, .int (a5 + (1 : Int32))), (3, .int (a3 + 1)), (0, .ref a0), (1, .int a1), (2, .int a2)]) 5 dX9_wordKind_64 rfl rfl (by decide) rfl ?_
          refine X_goto (tgt := 8) dX9_wordKind_67 (by decide) ?_
          exact X_lv [3, 4, 5, 2, 1, 0] rfl (ih _ _ _ _ _ _ _ h0 hm)
        · replace hm := ip c7 hm
          refine X_aload_n 0 dX9_wordKind_41 rfl rfl rfl ?_
          refine X_iload_n 1 dX9_wordKind_42 rfl rfl ?_
          refine X_iload 4 dX9_wordKind_43 rfl ?_
          refine X_iload 5 dX9_wordKind_45 rfl ?_
          obtain ⟨q8, e9, hm⟩ := ob hm
          refine X_cS1 (kX9_isSame d (by omega) G h0 e9) ml_X9_79 ms_X9_isSame rfl rfl (Nat.le_refl _) ⟨Nat.le_refl _, Nat.le_refl _⟩ (Nat.le_of_ble_eq_true rfl) dX9_wordKind_47 ?_
          refine X_if_eq (tgt := 55) dX9_wordKind_50 (by decide) (fun c10 => ?_) (fun c10 => ?_)
          · replace hm := ip c10 hm
            refine X_iinc (lv' := [(3, .int (a3 + 1)), (0, .ref a0), (1, .int a1), (2, .int a2), (4, .int a4), (5, .int a5)]) 3 dX9_wordKind_55 rfl rfl (by decide) rfl ?_
            refine X_iload 5 dX9_wordKind_58 rfl ?_
            refine X_iconst (v := (1 : Int32)) dX9_wordKind_60 (by decide) ?_
            refine X_iadd dX9_wordKind_61 ?_
            refine X_istore (lv' := [(4, .int (a5 + (1 : Int32))), (3, .int (a3 + 1)), (0, .ref a0), (1, .int a1), (2, .int a2), (5, .int a5)]) dX9_wordKind_62 (by decide) rfl ?_
            refine X_iinc (lv' := [(5, .int (a5 + 1)), (4, .int (a5 + (1 : Int32))), (3, .int (a3 + 1)), (0, .ref a0), (1, .int a1), (2, .int a2)]) 5 dX9_wordKind_64 rfl rfl (by decide) rfl ?_
            refine X_goto (tgt := 8) dX9_wordKind_67 (by decide) ?_
            exact X_lv [3, 4, 5, 2, 1, 0] rfl (ih _ _ _ _ _ _ _ h0 hm)
          · replace hm := iq c10 hm
            refine X_iload_n 3 dX9_wordKind_53 rfl rfl ?_
            replace hm := Option.some.inj hm
            subst hm
            exact X_iret dX9_wordKind_54 rfl
def mX9_wordKind (I : Nat → Nat → Int32) (a0 : Nat) (z0 : Nat) (a1 : Int32) (a2 : Int32) : Option (Int32) := (mX9_wordKind_8 I xf a0 z0 a1 a2 (0 : Int32) (0 : Int32) (0 : Int32))
set_option maxHeartbeats 400000 in
set_option maxRecDepth 100000 in
theorem kX9_wordKind {E : xE} {B : Nat} {n : Nat} {K : Nat → Nat × Nat} {P : Nat → Nat → Nat} {I : Nat → Nat → Int32} {L : Nat → Nat → Int64}  {a0 : Nat} {z0 : Nat} {a1 : Int32} {a2 : Int32} {q : Int32} (d : Nat) (hd : 6 ≤ d) (G : GW K P)  (h0 : K a0 = (22, z0)) (hm : mX9_wordKind I a0 z0 a1 a2 = some q) : MX E B d 0 0 yX9_wordKind cX9_wordKind 6 (some .int) [.ref a0, .int a1, .int a2] (n, K, P, I, L) (some (.int q), (n, K, P, I, L)) := by
  refine MX_of (lv := [(0, .ref a0), (1, .int a1), (2, .int a2)]) (by decide +kernel) (Nat.le_of_ble_eq_true rfl) rfl ?_
  obtain ⟨d, rfl⟩ : ∃ d0, d = d0 + 1 := ⟨d - 1, by omega⟩
  unfold mX9_wordKind at hm
  refine X_iconst (v := (0 : Int32)) dX9_wordKind_0 (by decide) ?_
  refine X_istore_n (lv' := [(3, .int (0 : Int32)), (0, .ref a0), (1, .int a1), (2, .int a2)]) dX9_wordKind_1 rfl (by decide) rfl ?_
  refine X_iconst (v := (0 : Int32)) dX9_wordKind_2 (by decide) ?_
  refine X_istore (lv' := [(4, .int (0 : Int32)), (3, .int (0 : Int32)), (0, .ref a0), (1, .int a1), (2, .int a2)]) dX9_wordKind_3 (by decide) rfl ?_
  refine X_iconst (v := (0 : Int32)) dX9_wordKind_5 (by decide) ?_
  refine X_istore (lv' := [(5, .int (0 : Int32)), (4, .int (0 : Int32)), (3, .int (0 : Int32)), (0, .ref a0), (1, .int a1), (2, .int a2)]) dX9_wordKind_6 (by decide) rfl ?_
  refine X_lv [3, 4, 5, 2, 1, 0] rfl (kX9_wordKind_8 _ hd G xf _ _ _ _ _ _ _ h0 hm)
def mJ1_canEncode_9a6ad  (a0 : Int32) : Option (Int32) := (if a0 < 0 then (some (0 : Int32)) else (if (255 : Int32) < a0 then (some (0 : Int32)) else (some (1 : Int32))))
set_option maxHeartbeats 400000 in
set_option maxRecDepth 100000 in
theorem kJ1_canEncode_9a6ad {E : xE} {B : Nat} {n : Nat} {K : Nat → Nat × Nat} {P : Nat → Nat → Nat} {I : Nat → Nat → Int32} {L : Nat → Nat → Int64}  {a0 : Int32} {q : Int32} (d : Nat) (hd : 0 ≤ d) (G : GW K P)   (hm : mJ1_canEncode_9a6ad a0 = some q) : MX E B d 0 0 yJ1_canEncode_9a6ad cJ1_canEncode_9a6ad 1 (some .boolean) [.int a0] (n, K, P, I, L) (some (.int q), (n, K, P, I, L)) := by
  refine MX_ofJ (lv := [(0, .int a0)]) (by decide +kernel) (Nat.le_of_ble_eq_true rfl) rfl ?_
  unfold mJ1_canEncode_9a6ad at hm
  refine X_iload_n 0 dJ1_canEncode_9a6ad_0 rfl rfl ?_
  refine X_if_lt (tgt := 15) dJ1_canEncode_9a6ad_1 (by decide) (fun c1 => ?_) (fun c1 => ?_)
  · replace hm := ip c1 hm
    refine X_iconst (v := (0 : Int32)) dJ1_canEncode_9a6ad_15 (by decide) ?_
    replace hm := Option.some.inj hm
    subst hm
    exact X_zret (v := (0 : Int32)) dJ1_canEncode_9a6ad_16 rfl (x_nz (Or.inl rfl))
  · replace hm := iq c1 hm
    refine X_iload_n 0 dJ1_canEncode_9a6ad_4 rfl rfl ?_
    refine X_sipush (v := (255 : Int32)) dJ1_canEncode_9a6ad_5 (by decide) ?_
    refine X_icmp_gt (tgt := 15) dJ1_canEncode_9a6ad_8 (by decide) (fun c2 => ?_) (fun c2 => ?_)
    · replace hm := ip c2 hm
      refine X_iconst (v := (0 : Int32)) dJ1_canEncode_9a6ad_15 (by decide) ?_
      replace hm := Option.some.inj hm
      subst hm
      exact X_zret (v := (0 : Int32)) dJ1_canEncode_9a6ad_16 rfl (x_nz (Or.inl rfl))
    · replace hm := iq c2 hm
      refine X_iconst (v := (1 : Int32)) dJ1_canEncode_9a6ad_11 (by decide) ?_
      refine X_goto (tgt := 16) dJ1_canEncode_9a6ad_12 (by decide) ?_
      replace hm := Option.some.inj hm
      subst hm
      exact X_zret (v := (1 : Int32)) dJ1_canEncode_9a6ad_16 rfl (x_nz (Or.inr rfl))
def mJ1_indexOfChar_4cfef_7   : Nat → Nat → Int32 → Int32 → Int32 → Option (Int32)
  | 0, _, _, _, _ => none
  | f + 1, a0, a3, a4, a5 => (if a3 ≤ a5 then (some (-1 : Int32)) else (if inb a5 (xSl.getD a0 0) = true then (if ((xSb.getD a0 []).getD (ix a5) 0) = a4 then (some a5) else (mJ1_indexOfChar_4cfef_7 f a0 a3 a4 (a5 + 1))) else none))
set_option maxHeartbeats 400000 in
set_option maxRecDepth 100000 in
theorem kJ1_indexOfChar_4cfef_7 {E : xE} {B : Nat} {n : Nat} {K : Nat → Nat × Nat} {P : Nat → Nat → Nat} {I : Nat → Nat → Int32} {L : Nat → Nat → Int64}   {q : Int32} (d : Nat) (hd : 0 ≤ d) (G : GW K P)   : ∀ (f : Nat) (a0 : Nat) (a3 : Int32) (a4 : Int32) (a5 : Int32), a0 < 24 → mJ1_indexOfChar_4cfef_7 f a0 a3 a4 a5 = some q → X E B d 0 0 yJ1_indexOfChar_4cfef cJ1_indexOfChar_4cfef 6 (some .int) (some (.int q), (n, K, P, I, L)) 7 [(0, .retAddr (100 + a0)), (3, .int a3), (4, .int a4), (5, .int a5)] [] 0 0 (n, K, P, I, L) := by
  intro f
  induction f with
  | zero => intro _ _ _ _ _ hm; exact nomatch (show (none : Option (Int32)) = some q from hm)
  | succ f ih =>
    intro a0 a3 a4 a5 h0 hm
    rw [mJ1_indexOfChar_4cfef_7] at hm
    refine X_iload 3 dJ1_indexOfChar_4cfef_7 rfl ?_
    refine X_iload_n 1 dJ1_indexOfChar_4cfef_9 rfl rfl ?_
    refine X_icmp_ge (tgt := 31) dJ1_indexOfChar_4cfef_10 (by decide) (fun c1 => ?_) (fun c1 => ?_)
    · replace hm := ip c1 hm
      refine X_iconst (v := (-1 : Int32)) dJ1_indexOfChar_4cfef_31 (by decide) ?_
      replace hm := Option.some.inj hm
      subst hm
      exact X_iret dJ1_indexOfChar_4cfef_32 rfl
    · replace hm := iq c1 hm
      refine X_aload_n 0 dJ1_indexOfChar_4cfef_13 rfl rfl rfl ?_
      refine X_iload 3 dJ1_indexOfChar_4cfef_14 rfl ?_
      obtain ⟨g2, hm⟩ := og hm
      refine X_sAt h0 g2 dJ1_indexOfChar_4cfef_16 ?_
      refine X_iload 2 dJ1_indexOfChar_4cfef_17 rfl ?_
      refine X_icmp_ne (tgt := 25) dJ1_indexOfChar_4cfef_19 (by decide) (fun c3 => ?_) (fun c3 => ?_)
      · replace hm := iq c3 hm
        refine X_iinc (lv' := [(5, .int (a5 + 1)), (0, .retAddr (100 + a0)), (3, .int a3), (4, .int a4)]) 3 dJ1_indexOfChar_4cfef_25 rfl rfl (by decide) rfl ?_
        refine X_goto (tgt := 7) dJ1_indexOfChar_4cfef_28 (by decide) ?_
        exact X_lv [1, 2, 3, 0] rfl (ih _ _ _ _ h0 hm)
      · replace hm := ip c3 hm
        refine X_iload 3 dJ1_indexOfChar_4cfef_22 rfl ?_
        replace hm := Option.some.inj hm
        subst hm
        exact X_iret dJ1_indexOfChar_4cfef_24 rfl
def mJ1_indexOfChar_4cfef  (a0 : Nat) (a1 : Int32) (a2 : Int32) (a3 : Int32) : Option (Int32) := (mJ1_indexOfChar_4cfef_7 xf a0 a3 (xi2b a1) a2)
set_option maxHeartbeats 400000 in
set_option maxRecDepth 100000 in
theorem kJ1_indexOfChar_4cfef {E : xE} {B : Nat} {n : Nat} {K : Nat → Nat × Nat} {P : Nat → Nat → Nat} {I : Nat → Nat → Int32} {L : Nat → Nat → Int64}  {a0 : Nat} {a1 : Int32} {a2 : Int32} {a3 : Int32} {q : Int32} (d : Nat) (hd : 0 ≤ d) (G : GW K P)  (h0 : a0 < 24) (hm : mJ1_indexOfChar_4cfef a0 a1 a2 a3 = some q) : MX E B d 0 0 yJ1_indexOfChar_4cfef cJ1_indexOfChar_4cfef 6 (some .int) [.retAddr (100 + a0), .int a1, .int a2, .int a3] (n, K, P, I, L) (some (.int q), (n, K, P, I, L)) := by
  refine MX_ofJ (lv := [(0, .retAddr (100 + a0)), (1, .int a1), (2, .int a2), (3, .int a3)]) (by decide +kernel) (Nat.le_of_ble_eq_true rfl) rfl ?_
  unfold mJ1_indexOfChar_4cfef at hm
  refine X_iload_n 1 dJ1_indexOfChar_4cfef_0 rfl rfl ?_
  refine X_i2b dJ1_indexOfChar_4cfef_1 ?_
  refine X_istore (lv' := [(4, .int (xi2b a1)), (0, .retAddr (100 + a0)), (1, .int a1), (2, .int a2), (3, .int a3)]) dJ1_indexOfChar_4cfef_2 (by decide) rfl ?_
  refine X_iload_n 3 dJ1_indexOfChar_4cfef_4 rfl rfl ?_
  refine X_istore (lv' := [(5, .int a2), (4, .int (xi2b a1)), (0, .retAddr (100 + a0)), (1, .int a1), (2, .int a2), (3, .int a3)]) dJ1_indexOfChar_4cfef_5 (by decide) rfl ?_
  refine X_lv [2, 5, 1, 0] rfl (kJ1_indexOfChar_4cfef_7 _ hd G xf _ _ _ _ h0 hm)
def mJ1_indexOf_4cfef  (a0 : Nat) (a1 : Int32) (a2 : Int32) (a3 : Int32) : Option (Int32) := (Option.bind (mJ1_canEncode_9a6ad a1) (fun q1 => (if q1 = 0 then (some (-1 : Int32)) else (Option.bind (mJ9_max_7cf53 a2 (0 : Int32)) (fun q4 => (Option.bind (mJ9_min_7cf53 a3 (nI (xSl.getD a0 0))) (fun q6 => (if q4 < q6 then (Option.bind (mJ1_indexOfChar_4cfef a0 a1 q4 q6) (fun q9 => (some q9))) else (some (-1 : Int32))))))))))
set_option maxHeartbeats 400000 in
set_option maxRecDepth 100000 in
theorem kJ1_indexOf_4cfef {E : xE} {B : Nat} {n : Nat} {K : Nat → Nat × Nat} {P : Nat → Nat → Nat} {I : Nat → Nat → Int32} {L : Nat → Nat → Int64}  {a0 : Nat} {a1 : Int32} {a2 : Int32} {a3 : Int32} {q : Int32} (d : Nat) (hd : 1 ≤ d) (G : GW K P)  (h0 : a0 < 24) (hm : mJ1_indexOf_4cfef a0 a1 a2 a3 = some q) : MX E B d 0 0 yJ1_indexOf_4cfef cJ1_indexOf_4cfef 4 (some .int) [.retAddr (100 + a0), .int a1, .int a2, .int a3] (n, K, P, I, L) (some (.int q), (n, K, P, I, L)) := by
  refine MX_ofJ (lv := [(0, .retAddr (100 + a0)), (1, .int a1), (2, .int a2), (3, .int a3)]) (by decide +kernel) (Nat.le_of_ble_eq_true rfl) rfl ?_
  obtain ⟨d, rfl⟩ : ∃ d0, d = d0 + 1 := ⟨d - 1, by omega⟩
  unfold mJ1_indexOf_4cfef at hm
  refine X_iload_n 1 dJ1_indexOf_4cfef_0 rfl rfl ?_
  obtain ⟨q1, e2, hm⟩ := ob hm
  refine X_cS1 (kJ1_canEncode_9a6ad d (by omega) G e2) ml_J1_88 ms_J1_canEncode_9a6ad rfl rfl (Nat.le_refl _) ⟨Nat.le_refl _, Nat.le_refl _⟩ (Nat.le_of_ble_eq_true rfl) dJ1_indexOf_4cfef_1 ?_
  refine X_if_ne (tgt := 9) dJ1_indexOf_4cfef_4 (by decide) (fun c3 => ?_) (fun c3 => ?_)
  · replace hm := iq c3 hm
    refine X_iload_n 2 dJ1_indexOf_4cfef_9 rfl rfl ?_
    refine X_iconst (v := (0 : Int32)) dJ1_indexOf_4cfef_10 (by decide) ?_
    obtain ⟨q4, e5, hm⟩ := ob hm
    refine X_cS1 (kJ9_max_7cf53 d (by omega) G e5) ml_J1_92 ms_J9_max_7cf53 rfl rfl (Nat.le_refl _) ⟨Nat.le_refl _, Nat.le_refl _⟩ (Nat.le_of_ble_eq_true rfl) dJ1_indexOf_4cfef_11 ?_
    refine X_istore_n (lv' := [(2, .int q4), (0, .retAddr (100 + a0)), (1, .int a1), (3, .int a3)]) dJ1_indexOf_4cfef_14 rfl (by decide) rfl ?_
    refine X_iload_n 3 dJ1_indexOf_4cfef_15 rfl rfl ?_
    refine X_aload_n 1 dJ1_indexOf_4cfef_16 rfl rfl rfl ?_
    refine X_sLen h0 dJ1_indexOf_4cfef_17 ?_
    obtain ⟨q6, e7, hm⟩ := ob hm
    refine X_cS1 (kJ9_min_7cf53 d (by omega) G e7) ml_J1_38 ms_J9_min_7cf53 rfl rfl (Nat.le_refl _) ⟨Nat.le_refl _, Nat.le_refl _⟩ (Nat.le_of_ble_eq_true rfl) dJ1_indexOf_4cfef_18 ?_
    refine X_istore_n (lv' := [(3, .int q6), (2, .int q4), (0, .retAddr (100 + a0)), (1, .int a1)]) dJ1_indexOf_4cfef_21 rfl (by decide) rfl ?_
    refine X_iload_n 1 dJ1_indexOf_4cfef_22 rfl rfl ?_
    refine X_iload_n 0 dJ1_indexOf_4cfef_23 rfl rfl ?_
    refine X_icmp_lt (tgt := 29) dJ1_indexOf_4cfef_24 (by decide) (fun c8 => ?_) (fun c8 => ?_)
    · replace hm := ip c8 hm
      refine X_aload_n 2 dJ1_indexOf_4cfef_29 rfl rfl rfl ?_
      refine X_iload_n 3 dJ1_indexOf_4cfef_30 rfl rfl ?_
      refine X_iload_n 1 dJ1_indexOf_4cfef_31 rfl rfl ?_
      refine X_iload_n 0 dJ1_indexOf_4cfef_32 rfl rfl ?_
      obtain ⟨q9, e10, hm⟩ := ob hm
      refine X_cS1 (kJ1_indexOfChar_4cfef d (by omega) G h0 e10) ml_J1_95 ms_J1_indexOfChar_4cfef rfl rfl (Nat.le_refl _) ⟨Nat.le_refl _, Nat.le_refl _⟩ (Nat.le_of_ble_eq_true rfl) dJ1_indexOf_4cfef_33 ?_
      replace hm := Option.some.inj hm
      subst hm
      exact X_iret dJ1_indexOf_4cfef_36 rfl
    · replace hm := iq c8 hm
      refine X_iconst (v := (-1 : Int32)) dJ1_indexOf_4cfef_27 (by decide) ?_
      replace hm := Option.some.inj hm
      subst hm
      exact X_iret dJ1_indexOf_4cfef_28 rfl
  · replace hm := ip c3 hm
    refine X_iconst (v := (-1 : Int32)) dJ1_indexOf_4cfef_7 (by decide) ?_
    replace hm := Option.some.inj hm
    subst hm
    exact X_iret dJ1_indexOf_4cfef_8 rfl
def mJ0_indexOf_7cf53  (a0 : Nat) (a1 : Int32) (a2 : Int32) : Option (Int32) := (Option.bind (mJ0_length_8abf5 a0) (fun q4 => (Option.bind (mJ1_indexOf_4cfef a0 a1 a2 q4) (fun q6 => (some q6)))))
set_option maxHeartbeats 400000 in
set_option maxRecDepth 100000 in
theorem kJ0_indexOf_7cf53 {E : xE} {B : Nat} {n : Nat} {K : Nat → Nat × Nat} {P : Nat → Nat → Nat} {I : Nat → Nat → Int32} {L : Nat → Nat → Int64}  {a0 : Nat} {a1 : Int32} {a2 : Int32} {q : Int32} (d : Nat) (hd : 5 ≤ d) (G : GW K P)  (h0 : a0 < 24) (hm : mJ0_indexOf_7cf53 a0 a1 a2 = some q) : MX E B d 0 0 yJ0_indexOf_7cf53 cJ0_indexOf_7cf53 3 (some .int) [.retAddr a0, .int a1, .int a2] (n, K, P, I, L) (some (.int q), (n, K, P, I, L)) := by
  refine MX_ofJ (lv := [(0, .retAddr a0), (1, .int a1), (2, .int a2)]) (by decide +kernel) (Nat.le_of_ble_eq_true rfl) rfl ?_
  obtain ⟨d, rfl⟩ : ∃ d0, d = d0 + 1 := ⟨d - 1, by omega⟩
  unfold mJ0_indexOf_7cf53 at hm
  refine X_aload_n 0 dJ0_indexOf_7cf53_0 rfl rfl rfl ?_
  refine X_cT1 (v := .int (1 : Int32)) (kJ0_isLatin1_aae02 d (by omega) G h0 rfl) ml_J0_492 mi_J0_isLatin1_aae02 rfl h0 rfl rfl (Nat.le_refl _) ⟨Nat.le_refl _, Nat.le_refl _⟩ (Nat.le_of_ble_eq_true rfl) dJ0_indexOf_7cf53_1 ?_
  refine X_if_eq (tgt := 23) dJ0_indexOf_7cf53_4 (by decide) (fun c => absurd c (by decide)) (fun _ => ?_)
  refine X_aload_n 0 dJ0_indexOf_7cf53_7 rfl rfl rfl ?_
  refine X_sVal h0 fs_J0_9 dJ0_indexOf_7cf53_8 ?_
  refine X_iload_n 1 dJ0_indexOf_7cf53_11 rfl rfl ?_
  refine X_iload_n 2 dJ0_indexOf_7cf53_12 rfl rfl ?_
  refine X_aload_n 0 dJ0_indexOf_7cf53_13 rfl rfl rfl ?_
  obtain ⟨q4, e5, hm⟩ := ob hm
  refine X_cT1 (kJ0_length_8abf5 d (by omega) G h0 e5) ml_J0_505 mi_J0_length_8abf5 rfl h0 rfl rfl (Nat.le_refl _) ⟨Nat.le_refl _, Nat.le_refl _⟩ (Nat.le_of_ble_eq_true rfl) dJ0_indexOf_7cf53_14 ?_
  obtain ⟨q6, e7, hm⟩ := ob hm
  refine X_cS1 (kJ1_indexOf_4cfef d (by omega) G h0 e7) ml_J0_637 ms_J1_indexOf_4cfef rfl rfl (Nat.le_refl _) ⟨Nat.le_refl _, Nat.le_refl _⟩ (Nat.le_of_ble_eq_true rfl) dJ0_indexOf_7cf53_17 ?_
  refine X_goto (tgt := 36) dJ0_indexOf_7cf53_20 (by decide) ?_
  replace hm := Option.some.inj hm
  subst hm
  exact X_iret dJ0_indexOf_7cf53_36 rfl
def mJ0_indexOf_0f7a4  (a0 : Nat) (a1 : Int32) : Option (Int32) := (Option.bind (mJ0_indexOf_7cf53 a0 a1 (0 : Int32)) (fun q1 => (some q1)))
set_option maxHeartbeats 400000 in
set_option maxRecDepth 100000 in
theorem kJ0_indexOf_0f7a4 {E : xE} {B : Nat} {n : Nat} {K : Nat → Nat × Nat} {P : Nat → Nat → Nat} {I : Nat → Nat → Int32} {L : Nat → Nat → Int64}  {a0 : Nat} {a1 : Int32} {q : Int32} (d : Nat) (hd : 6 ≤ d) (G : GW K P)  (h0 : a0 < 24) (hm : mJ0_indexOf_0f7a4 a0 a1 = some q) : MX E B d 0 0 yJ0_indexOf_0f7a4 cJ0_indexOf_0f7a4 2 (some .int) [.retAddr a0, .int a1] (n, K, P, I, L) (some (.int q), (n, K, P, I, L)) := by
  refine MX_ofJ (lv := [(0, .retAddr a0), (1, .int a1)]) (by decide +kernel) (Nat.le_of_ble_eq_true rfl) rfl ?_
  obtain ⟨d, rfl⟩ : ∃ d0, d = d0 + 1 := ⟨d - 1, by omega⟩
  unfold mJ0_indexOf_0f7a4 at hm
  refine X_aload_n 0 dJ0_indexOf_0f7a4_0 rfl rfl rfl ?_
  refine X_iload_n 1 dJ0_indexOf_0f7a4_1 rfl rfl ?_
  refine X_iconst (v := (0 : Int32)) dJ0_indexOf_0f7a4_2 (by decide) ?_
  obtain ⟨q1, e2, hm⟩ := ob hm
  refine X_cT1 (kJ0_indexOf_7cf53 d (by omega) G h0 e2) ml_J0_633 mi_J0_indexOf_7cf53 rfl h0 rfl rfl (Nat.le_refl _) ⟨Nat.le_refl _, Nat.le_refl _⟩ (Nat.le_of_ble_eq_true rfl) dJ0_indexOf_0f7a4_3 ?_
  replace hm := Option.some.inj hm
  subst hm
  exact X_iret dJ0_indexOf_0f7a4_6 rfl
def mX9_kindOf_64 (I : Nat → Nat → Int32) (t0 : Int32) : Option (Int32) := (if 0 ≤ t0 then (some ((22 : Int32) + t0)) else (some (37 : Int32)))
set_option maxHeartbeats 400000 in
set_option maxRecDepth 100000 in
theorem kX9_kindOf_64 {E : xE} {B : Nat} {n : Nat} {K : Nat → Nat × Nat} {P : Nat → Nat → Nat} {I : Nat → Nat → Int32} {L : Nat → Nat → Int64}   {t0 : Int32} {q : Int32} (d : Nat) (hd : 7 ≤ d) (G : GW K P)    (hm : mX9_kindOf_64 I t0 = some q) : X E B d 0 0 yX9_kindOf cX9_kindOf 5 (some .int) (some (.int q), (n, K, P, I, L)) 64 [] [.int t0] 0 0 (n, K, P, I, L) := by
  obtain ⟨d, rfl⟩ : ∃ d0, d = d0 + 1 := ⟨d - 1, by omega⟩
  unfold mX9_kindOf_64 at hm
  refine X_istore (lv' := [(4, .int t0)]) dX9_kindOf_64 (by decide) rfl ?_
  refine X_iload 0 dX9_kindOf_66 rfl ?_
  refine X_if_ge (tgt := 76) dX9_kindOf_68 (by decide) (fun c12 => ?_) (fun c12 => ?_)
  · replace hm := ip c12 hm
    refine X_bipush (v := (22 : Int32)) dX9_kindOf_76 (by decide) ?_
    refine X_iload 0 dX9_kindOf_78 rfl ?_
    refine X_iadd dX9_kindOf_80 ?_
    replace hm := Option.some.inj hm
    subst hm
    exact X_iret dX9_kindOf_81 rfl
  · replace hm := iq c12 hm
    refine X_bipush (v := (37 : Int32)) dX9_kindOf_71 (by decide) ?_
    refine X_goto (tgt := 81) dX9_kindOf_73 (by decide) ?_
    replace hm := Option.some.inj hm
    subst hm
    exact X_iret dX9_kindOf_81 rfl
def mX9_kindOf (I : Nat → Nat → Int32) (a0 : Nat) (z0 : Nat) (a1 : Int32) (a2 : Int32) : Option (Int32) := (if inb a1 z0 = true then (Option.bind (mX9_isLetter (I a0 (ix a1))) (fun q2 => (if q2 = 0 then (Option.bind (mX9_isDigit (I a0 (ix a1))) (fun q5 => (if q5 = 0 then (if (a2 - a1) = (2 : Int32) then (if (I a0 (ix a1)) = (60 : Int32) then (some (33 : Int32)) else (some (34 : Int32))) else (if 0 ≤ (I a0 (ix a1)) then (Option.bind (mJ0_indexOf_0f7a4 1 (xi2c (I a0 (ix a1)))) (fun q10 => (mX9_kindOf_64 I q10))) else (mX9_kindOf_64 I (-1 : Int32)))) else (some (35 : Int32))))) else (Option.bind (mX9_wordKind I a0 z0 a1 a2) (fun q14 => (some q14)))))) else none)
set_option maxHeartbeats 400000 in
set_option maxRecDepth 100000 in
theorem kX9_kindOf {E : xE} {B : Nat} {n : Nat} {K : Nat → Nat × Nat} {P : Nat → Nat → Nat} {I : Nat → Nat → Int32} {L : Nat → Nat → Int64}  {a0 : Nat} {z0 : Nat} {a1 : Int32} {a2 : Int32} {q : Int32} (d : Nat) (hd : 7 ≤ d) (G : GW K P)  (h0 : K a0 = (22, z0)) (hm : mX9_kindOf I a0 z0 a1 a2 = some q) : MX E B d 0 0 yX9_kindOf cX9_kindOf 5 (some .int) [.ref a0, .int a1, .int a2] (n, K, P, I, L) (some (.int q), (n, K, P, I, L)) := by
  refine MX_of (lv := [(0, .ref a0), (1, .int a1), (2, .int a2)]) (by decide +kernel) (Nat.le_of_ble_eq_true rfl) rfl ?_
  obtain ⟨d, rfl⟩ : ∃ d0, d = d0 + 1 := ⟨d - 1, by omega⟩
  unfold mX9_kindOf at hm
  refine X_aload_n 0 dX9_kindOf_0 rfl rfl rfl ?_
  refine X_iload_n 1 dX9_kindOf_1 rfl rfl ?_
  obtain ⟨g1, hm⟩ := og hm
  refine X_baldJ h0 g1 rfl dX9_kindOf_2 ?_
  refine X_istore_n (lv' := [(3, .int (I a0 (ix a1))), (0, .ref a0), (1, .int a1), (2, .int a2)]) dX9_kindOf_3 rfl (by decide) rfl ?_
  refine X_iload_n 0 dX9_kindOf_4 rfl rfl ?_
  obtain ⟨q2, e3, hm⟩ := ob hm
  refine X_cS1 (kX9_isLetter d (by omega) G e3) ml_X9_51 ms_X9_isLetter rfl rfl (Nat.le_refl _) ⟨Nat.le_refl _, Nat.le_refl _⟩ (Nat.le_of_ble_eq_true rfl) dX9_kindOf_5 ?_
  refine X_if_eq (tgt := 18) dX9_kindOf_8 (by decide) (fun c4 => ?_) (fun c4 => ?_)
  · replace hm := ip c4 hm
    refine X_iload_n 0 dX9_kindOf_18 rfl rfl ?_
    obtain ⟨q5, e6, hm⟩ := ob hm
    refine X_cS1 (kX9_isDigit d (by omega) G e6) ml_X9_55 ms_X9_isDigit rfl rfl (Nat.le_refl _) ⟨Nat.le_refl _, Nat.le_refl _⟩ (Nat.le_of_ble_eq_true rfl) dX9_kindOf_19 ?_
    refine X_if_eq (tgt := 28) dX9_kindOf_22 (by decide) (fun c7 => ?_) (fun c7 => ?_)
    · replace hm := ip c7 hm
      refine X_iload_n 3 dX9_kindOf_28 rfl rfl ?_
      refine X_iload_n 2 dX9_kindOf_29 rfl rfl ?_
      refine X_isub dX9_kindOf_30 ?_
      refine X_iconst (v := (2 : Int32)) dX9_kindOf_31 (by decide) ?_
      refine X_icmp_ne (tgt := 49) dX9_kindOf_32 (by decide) (fun c8 => ?_) (fun c8 => ?_)
      · replace hm := iq c8 hm
        refine X_iload_n 0 dX9_kindOf_49 rfl rfl ?_
        refine X_if_ge (tgt := 57) dX9_kindOf_50 (by decide) (fun c9 => ?_) (fun c9 => ?_)
        · replace hm := ip c9 hm
          refine X_ldcS (i := 1) rfl (by decide) dX9_kindOf_57 ?_
          refine X_iload_n 0 dX9_kindOf_59 rfl rfl ?_
          refine X_i2c dX9_kindOf_60 ?_
          obtain ⟨q10, e11, hm⟩ := ob hm
          refine X_cT1 (kJ0_indexOf_0f7a4 d (by omega) G (by decide) e11) ml_X9_63 mi_J0_indexOf_0f7a4 rfl (by decide) rfl rfl (Nat.le_refl _) ⟨Nat.le_refl _, Nat.le_refl _⟩ (Nat.le_of_ble_eq_true rfl) dX9_kindOf_61 ?_
          exact X_lv [] rfl (kX9_kindOf_64 _ hd G hm)
        · replace hm := iq c9 hm
          refine X_iconst (v := (-1 : Int32)) dX9_kindOf_53 (by decide) ?_
          refine X_goto (tgt := 64) dX9_kindOf_54 (by decide) ?_
          exact X_lv [] rfl (kX9_kindOf_64 _ hd G hm)
      · replace hm := ip c8 hm
        refine X_iload_n 0 dX9_kindOf_35 rfl rfl ?_
        refine X_bipush (v := (60 : Int32)) dX9_kindOf_36 (by decide) ?_
        refine X_icmp_ne (tgt := 46) dX9_kindOf_38 (by decide) (fun c13 => ?_) (fun c13 => ?_)
        · replace hm := iq c13 hm
          refine X_bipush (v := (34 : Int32)) dX9_kindOf_46 (by decide) ?_
          replace hm := Option.some.inj hm
          subst hm
          exact X_iret dX9_kindOf_48 rfl
        · replace hm := ip c13 hm
          refine X_bipush (v := (33 : Int32)) dX9_kindOf_41 (by decide) ?_
          refine X_goto (tgt := 48) dX9_kindOf_43 (by decide) ?_
          replace hm := Option.some.inj hm
          subst hm
          exact X_iret dX9_kindOf_48 rfl
    · replace hm := iq c7 hm
      refine X_bipush (v := (35 : Int32)) dX9_kindOf_25 (by decide) ?_
      replace hm := Option.some.inj hm
      subst hm
      exact X_iret dX9_kindOf_27 rfl
  · replace hm := iq c4 hm
    refine X_aload_n 1 dX9_kindOf_11 rfl rfl rfl ?_
    refine X_iload_n 2 dX9_kindOf_12 rfl rfl ?_
    refine X_iload_n 3 dX9_kindOf_13 rfl rfl ?_
    obtain ⟨q14, e15, hm⟩ := ob hm
    refine X_cS1 (kX9_wordKind d (by omega) G h0 e15) ml_X9_58 ms_X9_wordKind rfl rfl (Nat.le_refl _) ⟨Nat.le_refl _, Nat.le_refl _⟩ (Nat.le_of_ble_eq_true rfl) dX9_kindOf_14 ?_
    replace hm := Option.some.inj hm
    subst hm
    exact X_iret dX9_kindOf_17 rfl
def mX9_numberOf_23 (I : Nat → Nat → Int32)  : Nat → Nat → Nat → Int32 → Int32 → Int32 → Option (Int32)
  | 0, _, _, _, _, _ => none
  | f + 1, a0, z0, a2, a3, a4 => (if a2 ≤ a4 then (some a3) else (if inb a4 z0 = true then (mX9_numberOf_23 I f a0 z0 a2 (((a3 * (10 : Int32)) + (I a0 (ix a4))) - (48 : Int32)) (a4 + 1)) else none))
set_option maxHeartbeats 400000 in
set_option maxRecDepth 100000 in
theorem kX9_numberOf_23 {E : xE} {B : Nat} {n : Nat} {K : Nat → Nat × Nat} {P : Nat → Nat → Nat} {I : Nat → Nat → Int32} {L : Nat → Nat → Int64}   {q : Int32} (d : Nat) (hd : 1 ≤ d) (G : GW K P)   : ∀ (f : Nat) (a0 : Nat) (z0 : Nat) (a2 : Int32) (a3 : Int32) (a4 : Int32), K a0 = (22, z0) → mX9_numberOf_23 I f a0 z0 a2 a3 a4 = some q → X E B d 0 0 yX9_numberOf cX9_numberOf 5 (some .int) (some (.int q), (n, K, P, I, L)) 23 [(0, .ref a0), (2, .int a2), (3, .int a3), (4, .int a4)] [] 0 0 (n, K, P, I, L) := by
  obtain ⟨d, rfl⟩ : ∃ d0, d = d0 + 1 := ⟨d - 1, by omega⟩
  intro f
  induction f with
  | zero => intro _ _ _ _ _ _ hm; exact nomatch (show (none : Option (Int32)) = some q from hm)
  | succ f ih =>
    intro a0 z0 a2 a3 a4 h0 hm
    rw [mX9_numberOf_23] at hm
    refine X_iload 3 dX9_numberOf_23 rfl ?_
    refine X_iload_n 1 dX9_numberOf_25 rfl rfl ?_
    refine X_icmp_ge (tgt := 48) dX9_numberOf_26 (by decide) (fun c6 => ?_) (fun c6 => ?_)
    · replace hm := ip c6 hm
      refine X_iload_n 2 dX9_numberOf_48 rfl rfl ?_
      replace hm := Option.some.inj hm
      subst hm
      exact X_iret dX9_numberOf_49 rfl
    · replace hm := iq c6 hm
      refine X_iload_n 2 dX9_numberOf_29 rfl rfl ?_
      refine X_bipush (v := (10 : Int32)) dX9_numberOf_30 (by decide) ?_
      refine X_imul dX9_numberOf_32 ?_
      refine X_aload_n 0 dX9_numberOf_33 rfl rfl rfl ?_
      refine X_iload 3 dX9_numberOf_34 rfl ?_
      obtain ⟨g7, hm⟩ := og hm
      refine X_baldJ h0 g7 rfl dX9_numberOf_36 ?_
      refine X_iadd dX9_numberOf_37 ?_
      refine X_bipush (v := (48 : Int32)) dX9_numberOf_38 (by decide) ?_
      refine X_isub dX9_numberOf_40 ?_
      refine X_istore_n (lv' := [(3, .int (((a3 * (10 : Int32)) + (I a0 (ix a4))) - (48 : Int32))), (0, .ref a0), (2, .int a2), (4, .int a4)]) dX9_numberOf_41 rfl (by decide) rfl ?_
      refine X_iinc (lv' := [(4, .int (a4 + 1)), (3, .int (((a3 * (10 : Int32)) + (I a0 (ix a4))) - (48 : Int32))), (0, .ref a0), (2, .int a2)]) 3 dX9_numberOf_42 rfl rfl (by decide) rfl ?_
      refine X_goto (tgt := 23) dX9_numberOf_45 (by decide) ?_
      exact X_lv [2, 3, 1, 0] rfl (ih _ _ _ _ _ h0 hm)
def mX9_numberOf (I : Nat → Nat → Int32) (a0 : Nat) (z0 : Nat) (a1 : Int32) (a2 : Int32) : Option (Int32) := (if inb a1 z0 = true then (Option.bind (mX9_isDigit (I a0 (ix a1))) (fun q2 => (if q2 = 0 then (some (-1 : Int32)) else (if (a2 - a1) ≤ (5 : Int32) then (mX9_numberOf_23 I xf a0 z0 a2 (0 : Int32) a1) else (some (-1 : Int32)))))) else none)
set_option maxHeartbeats 400000 in
set_option maxRecDepth 100000 in
theorem kX9_numberOf {E : xE} {B : Nat} {n : Nat} {K : Nat → Nat × Nat} {P : Nat → Nat → Nat} {I : Nat → Nat → Int32} {L : Nat → Nat → Int64}  {a0 : Nat} {z0 : Nat} {a1 : Int32} {a2 : Int32} {q : Int32} (d : Nat) (hd : 1 ≤ d) (G : GW K P)  (h0 : K a0 = (22, z0)) (hm : mX9_numberOf I a0 z0 a1 a2 = some q) : MX E B d 0 0 yX9_numberOf cX9_numberOf 5 (some .int) [.ref a0, .int a1, .int a2] (n, K, P, I, L) (some (.int q), (n, K, P, I, L)) := by
  refine MX_of (lv := [(0, .ref a0), (1, .int a1), (2, .int a2)]) (by decide +kernel) (Nat.le_of_ble_eq_true rfl) rfl ?_
  obtain ⟨d, rfl⟩ : ∃ d0, d = d0 + 1 := ⟨d - 1, by omega⟩
  unfold mX9_numberOf at hm
  refine X_aload_n 0 dX9_numberOf_0 rfl rfl rfl ?_
  refine X_iload_n 1 dX9_numberOf_1 rfl rfl ?_
  obtain ⟨g1, hm⟩ := og hm
  refine X_baldJ h0 g1 rfl dX9_numberOf_2 ?_
  obtain ⟨q2, e3, hm⟩ := ob hm
  refine X_cS1 (kX9_isDigit d (by omega) G e3) ml_X9_55 ms_X9_isDigit rfl rfl (Nat.le_refl _) ⟨Nat.le_refl _, Nat.le_refl _⟩ (Nat.le_of_ble_eq_true rfl) dX9_numberOf_3 ?_
  refine X_if_eq (tgt := 16) dX9_numberOf_6 (by decide) (fun c4 => ?_) (fun c4 => ?_)
  · replace hm := ip c4 hm
    refine X_iconst (v := (-1 : Int32)) dX9_numberOf_16 (by decide) ?_
    replace hm := Option.some.inj hm
    subst hm
    exact X_iret dX9_numberOf_17 rfl
  · replace hm := iq c4 hm
    refine X_iload_n 2 dX9_numberOf_9 rfl rfl ?_
    refine X_iload_n 1 dX9_numberOf_10 rfl rfl ?_
    refine X_isub dX9_numberOf_11 ?_
    refine X_iconst (v := (5 : Int32)) dX9_numberOf_12 (by decide) ?_
    refine X_icmp_le (tgt := 18) dX9_numberOf_13 (by decide) (fun c5 => ?_) (fun c5 => ?_)
    · replace hm := ip c5 hm
      refine X_iconst (v := (0 : Int32)) dX9_numberOf_18 (by decide) ?_
      refine X_istore_n (lv' := [(3, .int (0 : Int32)), (0, .ref a0), (1, .int a1), (2, .int a2)]) dX9_numberOf_19 rfl (by decide) rfl ?_
      refine X_iload_n 2 dX9_numberOf_20 rfl rfl ?_
      refine X_istore (lv' := [(4, .int a1), (3, .int (0 : Int32)), (0, .ref a0), (1, .int a1), (2, .int a2)]) dX9_numberOf_21 (by decide) rfl ?_
      refine X_lv [2, 4, 1, 0] rfl (kX9_numberOf_23 _ hd G xf _ _ _ _ _ h0 hm)
    · replace hm := iq c5 hm
      refine X_iconst (v := (-1 : Int32)) dX9_numberOf_16 (by decide) ?_
      replace hm := Option.some.inj hm
      subst hm
      exact X_iret dX9_numberOf_17 rfl
def mX9_add  (I : Nat → Nat → Int32) (a1 : Int32) (a2 : Int32) (a3 : Int32) : Option ((Nat → Nat → Int32)) := (if (400 : Int32) < (I 3 3) then (some I) else (if inb (I 3 3) 401 = true then (if inb ((xu I 4 (ix (I 3 3)) a1) 3 3) 401 = true then (if inb ((xu (xu I 4 (ix (I 3 3)) a1) 5 (ix ((xu I 4 (ix (I 3 3)) a1) 3 3)) a2) 3 3) 401 = true then (some (xu (xu (xu (xu I 4 (ix (I 3 3)) a1) 5 (ix ((xu I 4 (ix (I 3 3)) a1) 3 3)) a2) 6 (ix ((xu (xu I 4 (ix (I 3 3)) a1) 5 (ix ((xu I 4 (ix (I 3 3)) a1) 3 3)) a2) 3 3)) a3) 3 3 (((xu (xu (xu I 4 (ix (I 3 3)) a1) 5 (ix ((xu I 4 (ix (I 3 3)) a1) 3 3)) a2) 6 (ix ((xu (xu I 4 (ix (I 3 3)) a1) 5 (ix ((xu I 4 (ix (I 3 3)) a1) 3 3)) a2) 3 3)) a3) 3 3) + (1 : Int32)))) else none) else none) else none))
set_option maxHeartbeats 400000 in
set_option maxRecDepth 100000 in
theorem kX9_add {E : xE} {B : Nat} {n : Nat} {K : Nat → Nat × Nat} {P : Nat → Nat → Nat} {I : Nat → Nat → Int32} {L : Nat → Nat → Int64}  {a1 : Int32} {a2 : Int32} {a3 : Int32} {q : (Nat → Nat → Int32)} (d : Nat) (hd : 0 ≤ d) (G : GW K P)   (hm : mX9_add I a1 a2 a3 = some q) : MX E B d 0 0 yX9_add cX9_add 4 (none : Option Jvm.ClassFile.FieldType) [.ref 3, .int a1, .int a2, .int a3] (n, K, P, I, L) (none, (n, K, P, q, L)) := by
  refine MX_of (lv := [(0, .ref 3), (1, .int a1), (2, .int a2), (3, .int a3)]) (by decide +kernel) (Nat.le_of_ble_eq_true rfl) rfl ?_
  unfold mX9_add at hm
  refine X_aload_n 0 dX9_add_0 rfl rfl rfl ?_
  refine X_getI fl_X9_21 (g_K3 G) rfl dX9_add_1 ?_
  refine X_sipush (v := (400 : Int32)) dX9_add_4 (by decide) ?_
  refine X_icmp_gt (tgt := 50) dX9_add_7 (by decide) (fun c1 => ?_) (fun c1 => ?_)
  · replace hm := ip c1 hm
    replace hm := Option.some.inj hm
    subst hm
    exact X_vret dX9_add_50 rfl
  · replace hm := iq c1 hm
    refine X_aload_n 0 dX9_add_10 rfl rfl rfl ?_
    refine X_getPe fl_X9_9 (g_K3 G) rfl (g_P3_0 G) dX9_add_11 ?_
    refine X_aload_n 0 dX9_add_14 rfl rfl rfl ?_
    refine X_getI fl_X9_21 (g_K3 G) rfl dX9_add_15 ?_
    refine X_iload_n 1 dX9_add_18 rfl rfl ?_
    obtain ⟨g2, hm⟩ := og hm
    refine X_iastJ (g_K4 G) g2 rfl dX9_add_19 ?_
    refine X_aload_n 0 dX9_add_20 rfl rfl rfl ?_
    refine X_getPe fl_X9_15 (g_K3 G) rfl (g_P3_1 G) dX9_add_21 ?_
    refine X_aload_n 0 dX9_add_24 rfl rfl rfl ?_
    refine X_getI fl_X9_21 (g_K3 G) rfl dX9_add_25 ?_
    refine X_iload_n 2 dX9_add_28 rfl rfl ?_
    obtain ⟨g3, hm⟩ := og hm
    refine X_iastJ (g_K5 G) g3 rfl dX9_add_29 ?_
    refine X_aload_n 0 dX9_add_30 rfl rfl rfl ?_
    refine X_getPe fl_X9_18 (g_K3 G) rfl (g_P3_2 G) dX9_add_31 ?_
    refine X_aload_n 0 dX9_add_34 rfl rfl rfl ?_
    refine X_getI fl_X9_21 (g_K3 G) rfl dX9_add_35 ?_
    refine X_iload_n 3 dX9_add_38 rfl rfl ?_
    obtain ⟨g4, hm⟩ := og hm
    refine X_iastJ (g_K6 G) g4 rfl dX9_add_39 ?_
    refine X_aload_n 0 dX9_add_40 rfl rfl rfl ?_
    refine X_dup dX9_add_41 rfl ?_
    refine X_getI fl_X9_21 (g_K3 G) rfl dX9_add_42 ?_
    refine X_iconst (v := (1 : Int32)) dX9_add_45 (by decide) ?_
    refine X_iadd dX9_add_46 ?_
    refine X_putI fl_X9_21 (g_K3 G) rfl rfl dX9_add_47 ?_
    replace hm := Option.some.inj hm
    subst hm
    exact X_vret dX9_add_50 rfl
def mX9_split_17   : Nat → (Nat → Nat → Int32) → Nat → Nat → Int32 → Int32 → Option ((Nat → Nat → Int32))
  | 0, _, _, _, _, _ => none
  | f + 1, I, a1, z1, a2, a3 => (if a2 ≤ a3 then (Option.bind (mX9_add I (36 : Int32) a2 (-1 : Int32)) (fun q2 => (some q2))) else (Option.bind (mX9_runEnd I a1 z1 a3 a2) (fun q4 => (Option.bind (mJ9_max_7cf53 (a3 + (1 : Int32)) q4) (fun q6 => (if inb a3 z1 = true then (if (I a1 (ix a3)) = (32 : Int32) then (mX9_split_17 f I a1 z1 a2 q6) else (Option.bind (mX9_kindOf I a1 z1 a3 q6) (fun q10 => (Option.bind (mX9_numberOf I a1 z1 a3 q6) (fun q12 => (Option.bind (mX9_add I q10 a3 q12) (fun q14 => (mX9_split_17 f q14 a1 z1 a2 q6)))))))) else none))))))
set_option maxHeartbeats 400000 in
set_option maxRecDepth 100000 in
theorem kX9_split_17 {E : xE} {B : Nat} {n : Nat} {K : Nat → Nat × Nat} {P : Nat → Nat → Nat} {L : Nat → Nat → Int64}   {q : (Nat → Nat → Int32)} (d : Nat) (hd : 8 ≤ d) (G : GW K P)   : ∀ (f : Nat) (I : Nat → Nat → Int32) (a1 : Nat) (z1 : Nat) (a2 : Int32) (a3 : Int32), K a1 = (22, z1) → mX9_split_17 f I a1 z1 a2 a3 = some q → X E B d 0 0 yX9_split cX9_split 5 (none : Option Jvm.ClassFile.FieldType) (none, (n, K, P, q, L)) 17 [(0, .ref 3), (1, .ref a1), (2, .int a2), (3, .int a3)] [] 0 0 (n, K, P, I, L) := by
  obtain ⟨d, rfl⟩ : ∃ d0, d = d0 + 1 := ⟨d - 1, by omega⟩
  intro f
  induction f with
  | zero => intro _ _ _ _ _ _ hm; exact nomatch (show (none : Option ((Nat → Nat → Int32))) = some q from hm)
  | succ f ih =>
    intro I a1 z1 a2 a3 h1 hm
    rw [mX9_split_17] at hm
    refine X_iload_n 3 dX9_split_17 rfl rfl ?_
    refine X_iload_n 2 dX9_split_18 rfl rfl ?_
    refine X_icmp_ge (tgt := 69) dX9_split_19 (by decide) (fun c1 => ?_) (fun c1 => ?_)
    · replace hm := ip c1 hm
      refine X_aload_n 0 dX9_split_69 rfl rfl rfl ?_
      refine X_bipush (v := (36 : Int32)) dX9_split_70 (by decide) ?_
      refine X_iload_n 2 dX9_split_72 rfl rfl ?_
      refine X_iconst (v := (-1 : Int32)) dX9_split_73 (by decide) ?_
      obtain ⟨q2, e3, hm⟩ := ob hm
      refine X_cV0 (ci := 8) (kX9_add d (by omega) G e3) ml_X9_47 mi_X9_add rfl cf_8 (g_K3 G) rfl rfl (Nat.le_refl _) ⟨Nat.le_refl _, Nat.le_refl _⟩ (Nat.le_of_ble_eq_true rfl) dX9_split_74 ?_
      replace hm := Option.some.inj hm
      subst hm
      exact X_vret dX9_split_77 rfl
    · replace hm := iq c1 hm
      refine X_iload_n 3 dX9_split_22 rfl rfl ?_
      refine X_iconst (v := (1 : Int32)) dX9_split_23 (by decide) ?_
      refine X_iadd dX9_split_24 ?_
      refine X_aload_n 1 dX9_split_25 rfl rfl rfl ?_
      refine X_iload_n 3 dX9_split_26 rfl rfl ?_
      refine X_iload_n 2 dX9_split_27 rfl rfl ?_
      obtain ⟨q4, e5, hm⟩ := ob hm
      refine X_cS1 (kX9_runEnd d (by omega) G h1 e5) ml_X9_31 ms_X9_runEnd rfl rfl (Nat.le_refl _) ⟨Nat.le_refl _, Nat.le_refl _⟩ (Nat.le_of_ble_eq_true rfl) dX9_split_28 ?_
      obtain ⟨q6, e7, hm⟩ := ob hm
      refine X_cS1 (kJ9_max_7cf53 d (by omega) G e7) ml_X9_35 ms_J9_max_7cf53 rfl rfl (Nat.le_refl _) ⟨Nat.le_refl _, Nat.le_refl _⟩ (Nat.le_of_ble_eq_true rfl) dX9_split_31 ?_
      refine X_istore (lv' := [(4, .int q6), (0, .ref 3), (1, .ref a1), (2, .int a2), (3, .int a3)]) dX9_split_34 (by decide) rfl ?_
      refine X_aload_n 2 dX9_split_36 rfl rfl rfl ?_
      refine X_iload_n 4 dX9_split_37 rfl rfl ?_
      obtain ⟨g8, hm⟩ := og hm
      refine X_baldJ h1 g8 rfl dX9_split_38 ?_
      refine X_bipush (v := (32 : Int32)) dX9_split_39 (by decide) ?_
      refine X_icmp_eq (tgt := 63) dX9_split_41 (by decide) (fun c9 => ?_) (fun c9 => ?_)
      · replace hm := ip c9 hm
        refine X_iload 0 dX9_split_63 rfl ?_
        refine X_istore_n (lv' := [(3, .int q6), (4, .int q6), (0, .ref 3), (1, .ref a1), (2, .int a2)]) dX9_split_65 rfl (by decide) rfl ?_
        refine X_goto (tgt := 17) dX9_split_66 (by decide) ?_
        exact X_lv [2, 3, 4, 0] rfl (ih _ _ _ _ _ h1 hm)
      · replace hm := iq c9 hm
        refine X_aload_n 1 dX9_split_44 rfl rfl rfl ?_
        refine X_aload_n 2 dX9_split_45 rfl rfl rfl ?_
        refine X_iload_n 4 dX9_split_46 rfl rfl ?_
        refine X_iload 0 dX9_split_47 rfl ?_
        obtain ⟨q10, e11, hm⟩ := ob hm
        refine X_cS1 (kX9_kindOf d (by omega) G h1 e11) ml_X9_41 ms_X9_kindOf rfl rfl (Nat.le_refl _) ⟨Nat.le_refl _, Nat.le_refl _⟩ (Nat.le_of_ble_eq_true rfl) dX9_split_49 ?_
        refine X_iload_n 4 dX9_split_52 rfl rfl ?_
        refine X_aload_n 2 dX9_split_53 rfl rfl rfl ?_
        refine X_iload_n 4 dX9_split_54 rfl rfl ?_
        refine X_iload 0 dX9_split_55 rfl ?_
        obtain ⟨q12, e13, hm⟩ := ob hm
        refine X_cS1 (kX9_numberOf d (by omega) G h1 e13) ml_X9_44 ms_X9_numberOf rfl rfl (Nat.le_refl _) ⟨Nat.le_refl _, Nat.le_refl _⟩ (Nat.le_of_ble_eq_true rfl) dX9_split_57 ?_
        obtain ⟨q14, e15, hm⟩ := ob hm
        refine X_cV0 (ci := 8) (kX9_add d (by omega) G e15) ml_X9_47 mi_X9_add rfl cf_8 (g_K3 G) rfl rfl (Nat.le_refl _) ⟨Nat.le_refl _, Nat.le_refl _⟩ (Nat.le_of_ble_eq_true rfl) dX9_split_60 ?_
        refine X_iload 0 dX9_split_63 rfl ?_
        refine X_istore_n (lv' := [(3, .int q6), (4, .int q6), (0, .ref 3), (1, .ref a1), (2, .int a2)]) dX9_split_65 rfl (by decide) rfl ?_
        refine X_goto (tgt := 17) dX9_split_66 (by decide) ?_
        exact X_lv [2, 3, 4, 0] rfl (ih _ _ _ _ _ h1 hm)
def mX9_split  (I : Nat → Nat → Int32) (a1 : Nat) (z1 : Nat) (a2 : Int32) : Option ((Nat → Nat → Int32)) := (mX9_split_17 xf (xu (xu (xu I 3 3 (0 : Int32)) 3 4 (0 : Int32)) 3 5 (0 : Int32)) a1 z1 a2 (0 : Int32))
set_option maxHeartbeats 400000 in
set_option maxRecDepth 100000 in
theorem kX9_split {E : xE} {B : Nat} {n : Nat} {K : Nat → Nat × Nat} {P : Nat → Nat → Nat} {I : Nat → Nat → Int32} {L : Nat → Nat → Int64}  {a1 : Nat} {z1 : Nat} {a2 : Int32} {q : (Nat → Nat → Int32)} (d : Nat) (hd : 8 ≤ d) (G : GW K P)  (h1 : K a1 = (22, z1)) (hm : mX9_split I a1 z1 a2 = some q) : MX E B d 0 0 yX9_split cX9_split 5 (none : Option Jvm.ClassFile.FieldType) [.ref 3, .ref a1, .int a2] (n, K, P, I, L) (none, (n, K, P, q, L)) := by
  refine MX_of (lv := [(0, .ref 3), (1, .ref a1), (2, .int a2)]) (by decide +kernel) (Nat.le_of_ble_eq_true rfl) rfl ?_
  obtain ⟨d, rfl⟩ : ∃ d0, d = d0 + 1 := ⟨d - 1, by omega⟩
  unfold mX9_split at hm
  refine X_aload_n 0 dX9_split_0 rfl rfl rfl ?_
  refine X_iconst (v := (0 : Int32)) dX9_split_1 (by decide) ?_
  refine X_putI fl_X9_21 (g_K3 G) rfl rfl dX9_split_2 ?_
  refine X_aload_n 0 dX9_split_5 rfl rfl rfl ?_
  refine X_iconst (v := (0 : Int32)) dX9_split_6 (by decide) ?_
  refine X_putI fl_X9_25 (g_K3 G) rfl rfl dX9_split_7 ?_
  refine X_aload_n 0 dX9_split_10 rfl rfl rfl ?_
  refine X_iconst (v := (0 : Int32)) dX9_split_11 (by decide) ?_
  refine X_putI fl_X9_28 (g_K3 G) rfl rfl dX9_split_12 ?_
  refine X_iconst (v := (0 : Int32)) dX9_split_15 (by decide) ?_
  refine X_istore_n (lv' := [(3, .int (0 : Int32)), (0, .ref 3), (1, .ref a1), (2, .int a2)]) dX9_split_16 rfl (by decide) rfl ?_
  refine X_lv [1, 2, 3, 0] rfl (kX9_split_17 _ hd G xf _ _ _ _ _ h1 hm)
def mX10_begin  (P : Nat → Nat → Nat) (I : Nat → Nat → Int32) (L : Nat → Nat → Int64) (a1 : Nat) : Option ((Nat → Nat → Nat) × (Nat → Nat → Int32) × (Nat → Nat → Int64)) := (Option.bind (mX6_copyFrom I L 24 (a1 + 8)) (fun q2 => (some ((xu P 12 0 a1), (xu (xu q2.1 12 3 (0 : Int32)) 12 7 (0 : Int32)), q2.2))))
set_option maxHeartbeats 400000 in
set_option maxRecDepth 100000 in
theorem kX10_begin {E : xE} {B : Nat} {n : Nat} {K : Nat → Nat × Nat} {P : Nat → Nat → Nat} {I : Nat → Nat → Int32} {L : Nat → Nat → Int64}  {a1 : Nat} {q : (Nat → Nat → Nat) × (Nat → Nat → Int32) × (Nat → Nat → Int64)} (d : Nat) (hd : 2 ≤ d) (G : GW K P)  (h1 : K a1 = (6, 0)) (hm : mX10_begin P I L a1 = some q) : MX E B d 0 0 yX10_begin cX10_begin 2 (none : Option Jvm.ClassFile.FieldType) [.ref 12, .ref a1] (n, K, P, I, L) (none, (n, K, q.1, q.2.1, q.2.2)) := by
  refine MX_of (lv := [(0, .ref 12), (1, .ref a1)]) (by decide +kernel) (Nat.le_of_ble_eq_true rfl) rfl ?_
  obtain ⟨d, rfl⟩ : ∃ d0, d = d0 + 1 := ⟨d - 1, by omega⟩
  unfold mX10_begin at hm
  refine X_aload_n 0 dX10_begin_0 rfl rfl rfl ?_
  refine X_aload_n 1 dX10_begin_1 rfl rfl rfl ?_
  have G1 := gw_upd G 12 0 a1 (Or.inl ⟨(g_K12 G), rfl, h1⟩)
  refine X_putP false fl_X10_12 (g_K12 G) rfl rfl (fun h => by cases h) dX10_begin_2 ?_
  refine X_aload_n 0 dX10_begin_5 rfl rfl rfl ?_
  refine X_getPe fl_X10_21 (g_K12 G) rfl (g_P12_1 G1) dX10_begin_6 ?_
  refine X_aload_n 1 dX10_begin_9 rfl rfl rfl ?_
  refine X_getPe fl_X10_43 h1 rfl (gl6_P16 G1 h1) dX10_begin_10 ?_
  obtain ⟨q2, e3, hm⟩ := ob hm
  refine X_cV0 (ci := 5) (kX6_copyFrom d (by omega) G1 (g_K24 G1) (gl6_K8 G1 h1) e3) ml_X10_46 mi_X6_copyFrom rfl cf_5 (g_K24 G1) rfl rfl (Nat.le_refl _) ⟨Nat.le_refl _, Nat.le_refl _⟩ (Nat.le_of_ble_eq_true rfl) dX10_begin_13 ?_
  refine X_aload_n 0 dX10_begin_16 rfl rfl rfl ?_
  refine X_iconst (v := (0 : Int32)) dX10_begin_17 (by decide) ?_
  refine X_putI fl_X10_50 (g_K12 G) rfl rfl dX10_begin_18 ?_
  refine X_aload_n 0 dX10_begin_21 rfl rfl rfl ?_
  refine X_iconst (v := (0 : Int32)) dX10_begin_22 (by decide) ?_
  refine X_putI fl_X10_53 (g_K12 G) rfl rfl dX10_begin_23 ?_
  replace hm := Option.some.inj hm
  subst hm
  exact X_vret dX10_begin_26 rfl
theorem gw_X10_begin {K : Nat → Nat × Nat} {P : Nat → Nat → Nat} {I : Nat → Nat → Int32} {L : Nat → Nat → Int64} {a1 : Nat} {q : (Nat → Nat → Nat) × (Nat → Nat → Int32) × (Nat → Nat → Int64)} (G : GW K P) (h1 : K a1 = (6, 0)) (e : mX10_begin P I L a1 = some q) : GW K q.1 := by
  unfold mX10_begin at e
  obtain ⟨q1, e1, e⟩ := ob e
  replace e := Option.some.inj e
  subst e
  exact gw_upd G 12 0 a1 (Or.inl ⟨g_K12 G, rfl, h1⟩)
def mX10_dropOldest_9   : Nat → (Nat → Nat → Nat) → (Nat → Nat → Int32) → Nat → Int32 → Option ((Nat → Nat → Nat) × (Nat → Nat → Int32))
  | 0, _, _, _, _ => none
  | f + 1, P, I, a1, a2 => (if (20 : Int32) ≤ a2 then (some ((xu P 27 (ix (19 : Int32)) a1), (xu I 12 3 (19 : Int32)))) else (if inb a2 20 = true then (if inb (a2 - (1 : Int32)) 20 = true then (mX10_dropOldest_9 f (xu P 27 (ix (a2 - (1 : Int32))) (P 27 (ix a2))) I a1 (a2 + 1)) else none) else none))
set_option maxHeartbeats 400000 in
set_option maxRecDepth 100000 in
theorem kX10_dropOldest_9 {E : xE} {B : Nat} {n : Nat} {K : Nat → Nat × Nat} {L : Nat → Nat → Int64}   {q : (Nat → Nat → Nat) × (Nat → Nat → Int32)} (d : Nat) (hd : 0 ≤ d)    : ∀ (f : Nat) (P : Nat → Nat → Nat) (I : Nat → Nat → Int32) (a1 : Nat) (a2 : Int32), GW K P → K a1 = (5, 0) → mX10_dropOldest_9 f P I a1 a2 = some q → X E B d 0 0 yX10_dropOldest cX10_dropOldest 3 (none : Option Jvm.ClassFile.FieldType) (none, (n, K, q.1, q.2, L)) 9 [(0, .ref 12), (1, .ref a1), (2, .int a2)] [] 0 0 (n, K, P, I, L) := by
  intro f
  induction f with
  | zero => intro _ _ _ _ _ _ hm; exact nomatch (show (none : Option ((Nat → Nat → Nat) × (Nat → Nat → Int32))) = some q from hm)
  | succ f ih =>
    intro P I a1 a2 G h1 hm
    rw [mX10_dropOldest_9] at hm
    refine X_iload_n 2 dX10_dropOldest_9 rfl rfl ?_
    refine X_bipush (v := (20 : Int32)) dX10_dropOldest_10 (by decide) ?_
    refine X_icmp_ge (tgt := 35) dX10_dropOldest_12 (by decide) (fun c1 => ?_) (fun c1 => ?_)
    · replace hm := ip c1 hm
      refine X_aload_n 0 dX10_dropOldest_35 rfl rfl rfl ?_
      refine X_getPe fl_X10_25 (g_K12 G) rfl (g_P12_2 G) dX10_dropOldest_36 ?_
      refine X_bipush (v := (19 : Int32)) dX10_dropOldest_39 (by decide) ?_
      refine X_aload_n 1 dX10_dropOldest_41 rfl rfl rfl ?_
      have G2 := gw_upd G 27 (ix (19 : Int32)) a1 (Or.inr (Or.inl ⟨(g_K27 G), h1⟩))
      refine X_aast (g_K27 G) (by decide) (by decide) cf_5 rfl h1 rfl dX10_dropOldest_42 ?_
      refine X_aload_n 0 dX10_dropOldest_43 rfl rfl rfl ?_
      refine X_bipush (v := (19 : Int32)) dX10_dropOldest_44 (by decide) ?_
      refine X_putI fl_X10_50 (g_K12 G) rfl rfl dX10_dropOldest_46 ?_
      replace hm := Option.some.inj hm
      subst hm
      exact X_vret dX10_dropOldest_49 rfl
    · replace hm := iq c1 hm
      refine X_aload_n 0 dX10_dropOldest_15 rfl rfl rfl ?_
      refine X_getPe fl_X10_25 (g_K12 G) rfl (g_P12_2 G) dX10_dropOldest_16 ?_
      refine X_iload_n 2 dX10_dropOldest_19 rfl rfl ?_
      refine X_iconst (v := (1 : Int32)) dX10_dropOldest_20 (by decide) ?_
      refine X_isub dX10_dropOldest_21 ?_
      refine X_aload_n 0 dX10_dropOldest_22 rfl rfl rfl ?_
      refine X_getPe fl_X10_25 (g_K12 G) rfl (g_P12_2 G) dX10_dropOldest_23 ?_
      refine X_iload_n 2 dX10_dropOldest_26 rfl rfl ?_
      obtain ⟨g3, hm⟩ := og hm
      refine X_aaldJ (g_K27 G) (by decide) rfl g3 rfl dX10_dropOldest_27 ?_
      obtain ⟨g4, hm⟩ := og hm
      have G5 := gw_upd G 27 (ix (a2 - (1 : Int32))) (P 27 (ix a2)) (Or.inr (Or.inl ⟨(g_K27 G), (gl9_kept (a := 12) G (g_K12 G) (inb_lt g3))⟩))
      refine X_aast (g_K27 G) (by decide) (by decide) cf_5 rfl (gl9_kept (a := 12) G (g_K12 G) (inb_lt g3)) g4 dX10_dropOldest_28 ?_
      refine X_iinc (lv' := [(2, .int (a2 + 1)), (0, .ref 12), (1, .ref a1)]) 2 dX10_dropOldest_29 rfl rfl (by decide) rfl ?_
      refine X_goto (tgt := 9) dX10_dropOldest_32 (by decide) ?_
      exact X_lv [1, 2, 0] rfl (ih _ _ _ _ G5 h1 hm)
def mX10_dropOldest  (P : Nat → Nat → Nat) (I : Nat → Nat → Int32) : Option ((Nat → Nat → Nat) × (Nat → Nat → Int32)) := (mX10_dropOldest_9 xf P I (P 27 (ix (0 : Int32))) (1 : Int32))
set_option maxHeartbeats 400000 in
set_option maxRecDepth 100000 in
theorem kX10_dropOldest {E : xE} {B : Nat} {n : Nat} {K : Nat → Nat × Nat} {P : Nat → Nat → Nat} {I : Nat → Nat → Int32} {L : Nat → Nat → Int64}   {q : (Nat → Nat → Nat) × (Nat → Nat → Int32)} (d : Nat) (hd : 0 ≤ d) (G : GW K P)   (hm : mX10_dropOldest P I = some q) : MX E B d 0 0 yX10_dropOldest cX10_dropOldest 3 (none : Option Jvm.ClassFile.FieldType) [.ref 12] (n, K, P, I, L) (none, (n, K, q.1, q.2, L)) := by
  refine MX_of (lv := [(0, .ref 12)]) (by decide +kernel) (Nat.le_of_ble_eq_true rfl) rfl ?_
  unfold mX10_dropOldest at hm
  refine X_aload_n 0 dX10_dropOldest_0 rfl rfl rfl ?_
  refine X_getPe fl_X10_25 (g_K12 G) rfl (g_P12_2 G) dX10_dropOldest_1 ?_
  refine X_iconst (v := (0 : Int32)) dX10_dropOldest_4 (by decide) ?_
  refine X_aaldJ (g_K27 G) (by decide) rfl rfl rfl dX10_dropOldest_5 ?_
  refine X_astore_n (lv' := [(1, .ref (P 27 (ix (0 : Int32)))), (0, .ref 12)]) dX10_dropOldest_6 rfl (by decide) rfl rfl ?_
  refine X_iconst (v := (1 : Int32)) dX10_dropOldest_7 (by decide) ?_
  refine X_istore_n (lv' := [(2, .int (1 : Int32)), (1, .ref (P 27 (ix (0 : Int32)))), (0, .ref 12)]) dX10_dropOldest_8 rfl (by decide) rfl ?_
  refine X_lv [2, 1, 0] rfl (kX10_dropOldest_9 _ hd  xf _ _ _ _ G (gl9_kept (a := 12) G (g_K12 G) (inb_lt rfl)) hm)
theorem gwd_9 {K : Nat → Nat × Nat} {q : (Nat → Nat → Nat) × (Nat → Nat → Int32)} : ∀ (f : Nat) (P : Nat → Nat → Nat) (I : Nat → Nat → Int32) (a1 : Nat) (a2 : Int32), GW K P → K a1 = (5, 0) → mX10_dropOldest_9 f P I a1 a2 = some q → GW K q.1 := by
  intro f
  induction f with
  | zero => intro P I a1 a2 G h1 hm; exact nomatch (show (none : Option ((Nat → Nat → Nat) × (Nat → Nat → Int32))) = some q from hm)
  | succ f ih =>
    intro P I a1 a2 G h1 hm
    rw [mX10_dropOldest_9] at hm
    refine Or.elim (Decidable.em ((20 : Int32) ≤ a2)) (fun c => ?_) (fun c => ?_)
    · replace hm := ip c hm
      replace hm := Option.some.inj hm
      subst hm
      exact gw_upd G 27 _ a1 (Or.inr (Or.inl ⟨g_K27 G, h1⟩))
    · replace hm := iq c hm
      obtain ⟨g1, hm⟩ := og hm
      obtain ⟨g2, hm⟩ := og hm
      exact ih _ _ _ _ (gw_upd G 27 _ _ (Or.inr (Or.inl ⟨g_K27 G, gl9_kept (a := 12) G (g_K12 G) (inb_lt g1)⟩))) h1 hm
theorem gw_X10_dropOldest {K : Nat → Nat × Nat} {P : Nat → Nat → Nat} {I : Nat → Nat → Int32} {q : (Nat → Nat → Nat) × (Nat → Nat → Int32)} (G : GW K P) (e : mX10_dropOldest P I = some q) : GW K q.1 := gwd_9 xf P I _ _ G (gl9_kept (a := 12) G (g_K12 G) (by decide)) e
def mX10_keep_13  (P : Nat → Nat → Nat) (I : Nat → Nat → Int32) (L : Nat → Nat → Int64) : Option ((Nat → Nat → Nat) × (Nat → Nat → Int32) × (Nat → Nat → Int64)) := (if inb (I 12 3) 20 = true then (Option.bind (mX6_copyFrom I L (P 27 (ix (I 12 3))) 24) (fun q3 => (some (P, (xu q3.1 12 3 ((q3.1 12 3) + (1 : Int32))), q3.2)))) else none)
set_option maxHeartbeats 400000 in
set_option maxRecDepth 100000 in
theorem kX10_keep_13 {E : xE} {B : Nat} {n : Nat} {K : Nat → Nat × Nat} {P : Nat → Nat → Nat} {I : Nat → Nat → Int32} {L : Nat → Nat → Int64}    {q : (Nat → Nat → Nat) × (Nat → Nat → Int32) × (Nat → Nat → Int64)} (d : Nat) (hd : 2 ≤ d) (G : GW K P)    (hm : mX10_keep_13 P I L = some q) : X E B d 0 0 yX10_keep cX10_keep 1 (none : Option Jvm.ClassFile.FieldType) (none, (n, K, q.1, q.2.1, q.2.2)) 13 [(0, .ref 12)] [] 0 0 (n, K, P, I, L) := by
  obtain ⟨d, rfl⟩ : ∃ d0, d = d0 + 1 := ⟨d - 1, by omega⟩
  unfold mX10_keep_13 at hm
  refine X_aload_n 0 dX10_keep_13 rfl rfl rfl ?_
  refine X_getPe fl_X10_25 (g_K12 G) rfl (g_P12_2 G) dX10_keep_14 ?_
  refine X_aload_n 0 dX10_keep_17 rfl rfl rfl ?_
  refine X_getI fl_X10_50 (g_K12 G) rfl dX10_keep_18 ?_
  obtain ⟨g2, hm⟩ := og hm
  refine X_aaldJ (g_K27 G) (by decide) rfl g2 rfl dX10_keep_21 ?_
  refine X_aload_n 0 dX10_keep_22 rfl rfl rfl ?_
  refine X_getPe fl_X10_21 (g_K12 G) rfl (g_P12_1 G) dX10_keep_23 ?_
  obtain ⟨q3, e4, hm⟩ := ob hm
  refine X_cV0 (ci := 5) (kX6_copyFrom d (by omega) G (gl9_kept (a := 12) G (g_K12 G) (inb_lt g2)) (g_K24 G) e4) ml_X10_46 mi_X6_copyFrom rfl cf_5 (gl9_kept (a := 12) G (g_K12 G) (inb_lt g2)) rfl rfl (Nat.le_refl _) ⟨Nat.le_refl _, Nat.le_refl _⟩ (Nat.le_of_ble_eq_true rfl) dX10_keep_26 ?_
  refine X_aload_n 0 dX10_keep_29 rfl rfl rfl ?_
  refine X_dup dX10_keep_30 rfl ?_
  refine X_getI fl_X10_50 (g_K12 G) rfl dX10_keep_31 ?_
  refine X_iconst (v := (1 : Int32)) dX10_keep_34 (by decide) ?_
  refine X_iadd dX10_keep_35 ?_
  refine X_putI fl_X10_50 (g_K12 G) rfl rfl dX10_keep_36 ?_
  replace hm := Option.some.inj hm
  subst hm
  exact X_vret dX10_keep_39 rfl
def mX10_keep  (P : Nat → Nat → Nat) (I : Nat → Nat → Int32) (L : Nat → Nat → Int64) : Option ((Nat → Nat → Nat) × (Nat → Nat → Int32) × (Nat → Nat → Int64)) := (if (I 12 3) < (20 : Int32) then (mX10_keep_13 P I L) else (Option.bind (mX10_dropOldest P I) (fun q5 => (mX10_keep_13 q5.1 q5.2 L))))
set_option maxHeartbeats 400000 in
set_option maxRecDepth 100000 in
theorem kX10_keep {E : xE} {B : Nat} {n : Nat} {K : Nat → Nat × Nat} {P : Nat → Nat → Nat} {I : Nat → Nat → Int32} {L : Nat → Nat → Int64}   {q : (Nat → Nat → Nat) × (Nat → Nat → Int32) × (Nat → Nat → Int64)} (d : Nat) (hd : 2 ≤ d) (G : GW K P)   (hm : mX10_keep P I L = some q) : MX E B d 0 0 yX10_keep cX10_keep 1 (none : Option Jvm.ClassFile.FieldType) [.ref 12] (n, K, P, I, L) (none, (n, K, q.1, q.2.1, q.2.2)) := by
  refine MX_of (lv := [(0, .ref 12)]) (by decide +kernel) (Nat.le_of_ble_eq_true rfl) rfl ?_
  obtain ⟨d, rfl⟩ : ∃ d0, d = d0 + 1 := ⟨d - 1, by omega⟩
  unfold mX10_keep at hm
  refine X_aload_n 0 dX10_keep_0 rfl rfl rfl ?_
  refine X_getI fl_X10_50 (g_K12 G) rfl dX10_keep_1 ?_
  refine X_bipush (v := (20 : Int32)) dX10_keep_4 (by decide) ?_
  refine X_icmp_lt (tgt := 13) dX10_keep_6 (by decide) (fun c1 => ?_) (fun c1 => ?_)
  · replace hm := ip c1 hm
    exact kX10_keep_13 _ hd G hm
  · replace hm := iq c1 hm
    refine X_aload_n 0 dX10_keep_9 rfl rfl rfl ?_
    obtain ⟨q5, e6, hm⟩ := ob hm
    refine X_cV0 (ci := 9) (kX10_dropOldest d (by omega) G e6) ml_X10_56 mi_X10_dropOldest rfl cf_9 (g_K12 G) rfl rfl (Nat.le_refl _) ⟨Nat.le_refl _, Nat.le_refl _⟩ (Nat.le_of_ble_eq_true rfl) dX10_keep_10 ?_
    have G7 := gw_X10_dropOldest G e6
    exact kX10_keep_13 _ hd G7 hm
theorem gw_X10_keep {K : Nat → Nat × Nat} {P : Nat → Nat → Nat} {I : Nat → Nat → Int32} {L : Nat → Nat → Int64} {q : (Nat → Nat → Nat) × (Nat → Nat → Int32) × (Nat → Nat → Int64)} (G : GW K P) (e : mX10_keep P I L = some q) : GW K q.1 := by
  have h13 : ∀ {P : Nat → Nat → Nat} {I : Nat → Nat → Int32} {L : Nat → Nat → Int64}, GW K P → mX10_keep_13 P I L = some q → GW K q.1 := by
    intro P I L G e
    unfold mX10_keep_13 at e
    obtain ⟨g1, e⟩ := og e
    obtain ⟨q1, e1, e⟩ := ob e
    replace e := Option.some.inj e
    subst e
    exact G
  unfold mX10_keep at e
  refine Or.elim (Decidable.em (I 12 3 < (20 : Int32))) (fun c => ?_) (fun c => ?_)
  · exact h13 G (ip c e)
  · obtain ⟨q1, e1, e⟩ := ob (iq c e)
    exact h13 (gw_X10_dropOldest G e1) e
def mX10_takeBack (P : Nat → Nat → Nat) (I : Nat → Nat → Int32) (L : Nat → Nat → Int64) : Option (Int32 × (Nat → Nat → Int32) × (Nat → Nat → Int64)) := (if (I 12 3) = 0 then (some ((0 : Int32), I, L)) else (if inb ((xu I 12 3 ((I 12 3) - (1 : Int32))) 12 3) 20 = true then (Option.bind (mX6_copyFrom (xu I 12 3 ((I 12 3) - (1 : Int32))) L 24 (P 27 (ix ((xu I 12 3 ((I 12 3) - (1 : Int32))) 12 3)))) (fun q3 => (some ((1 : Int32), q3.1, q3.2)))) else none))
set_option maxHeartbeats 400000 in
set_option maxRecDepth 100000 in
theorem kX10_takeBack {E : xE} {B : Nat} {n : Nat} {K : Nat → Nat × Nat} {P : Nat → Nat → Nat} {I : Nat → Nat → Int32} {L : Nat → Nat → Int64}   {q : Int32 × (Nat → Nat → Int32) × (Nat → Nat → Int64)} (d : Nat) (hd : 2 ≤ d) (G : GW K P)   (hm : mX10_takeBack P I L = some q) : MX E B d 0 0 yX10_takeBack cX10_takeBack 1 (some .boolean) [.ref 12] (n, K, P, I, L) (some (.int q.1), (n, K, P, q.2.1, q.2.2)) := by
  refine MX_of (lv := [(0, .ref 12)]) (by decide +kernel) (Nat.le_of_ble_eq_true rfl) rfl ?_
  obtain ⟨d, rfl⟩ : ∃ d0, d = d0 + 1 := ⟨d - 1, by omega⟩
  unfold mX10_takeBack at hm
  refine X_aload_n 0 dX10_takeBack_0 rfl rfl rfl ?_
  refine X_getI fl_X10_50 (g_K12 G) rfl dX10_takeBack_1 ?_
  refine X_if_ne (tgt := 9) dX10_takeBack_4 (by decide) (fun c1 => ?_) (fun c1 => ?_)
  · replace hm := iq c1 hm
    refine X_aload_n 0 dX10_takeBack_9 rfl rfl rfl ?_
    refine X_dup dX10_takeBack_10 rfl ?_
    refine X_getI fl_X10_50 (g_K12 G) rfl dX10_takeBack_11 ?_
    refine X_iconst (v := (1 : Int32)) dX10_takeBack_14 (by decide) ?_
    refine X_isub dX10_takeBack_15 ?_
    refine X_putI fl_X10_50 (g_K12 G) rfl rfl dX10_takeBack_16 ?_
    refine X_aload_n 0 dX10_takeBack_19 rfl rfl rfl ?_
    refine X_getPe fl_X10_21 (g_K12 G) rfl (g_P12_1 G) dX10_takeBack_20 ?_
    refine X_aload_n 0 dX10_takeBack_23 rfl rfl rfl ?_
    refine X_getPe fl_X10_25 (g_K12 G) rfl (g_P12_2 G) dX10_takeBack_24 ?_
    refine X_aload_n 0 dX10_takeBack_27 rfl rfl rfl ?_
    refine X_getI fl_X10_50 (g_K12 G) rfl dX10_takeBack_28 ?_
    obtain ⟨g2, hm⟩ := og hm
    refine X_aaldJ (g_K27 G) (by decide) rfl g2 rfl dX10_takeBack_31 ?_
    obtain ⟨q3, e4, hm⟩ := ob hm
    refine X_cV0 (ci := 5) (kX6_copyFrom d (by omega) G (g_K24 G) (gl9_kept (a := 12) G (g_K12 G) (inb_lt g2)) e4) ml_X10_46 mi_X6_copyFrom rfl cf_5 (g_K24 G) rfl rfl (Nat.le_refl _) ⟨Nat.le_refl _, Nat.le_refl _⟩ (Nat.le_of_ble_eq_true rfl) dX10_takeBack_32 ?_
    refine X_iconst (v := (1 : Int32)) dX10_takeBack_35 (by decide) ?_
    replace hm := Option.some.inj hm
    subst hm
    exact X_zret (v := (1 : Int32)) dX10_takeBack_36 rfl (x_nz (Or.inr rfl))
  · replace hm := ip c1 hm
    refine X_iconst (v := (0 : Int32)) dX10_takeBack_7 (by decide) ?_
    replace hm := Option.some.inj hm
    subst hm
    exact X_zret (v := (0 : Int32)) dX10_takeBack_8 rfl (x_nz (Or.inl rfl))
def mX10_lastLogHour_4 (I : Nat → Nat → Int32)  : Nat → Int32 → Int32 → Option (Int32)
  | 0, _, _ => none
  | f + 1, a1, a2 => (if (I 12 7) ≤ a2 then (some a1) else (if inb a2 10 = true then (Option.bind (mJ9_max_7cf53 a1 (I 28 (ix a2))) (fun q3 => (mX10_lastLogHour_4 I f q3 (a2 + 1)))) else none))
set_option maxHeartbeats 400000 in
set_option maxRecDepth 100000 in
theorem kX10_lastLogHour_4 {E : xE} {B : Nat} {n : Nat} {K : Nat → Nat × Nat} {P : Nat → Nat → Nat} {I : Nat → Nat → Int32} {L : Nat → Nat → Int64}   {q : Int32} (d : Nat) (hd : 1 ≤ d) (G : GW K P)   : ∀ (f : Nat) (a1 : Int32) (a2 : Int32), mX10_lastLogHour_4 I f a1 a2 = some q → X E B d 0 0 yX10_lastLogHour cX10_lastLogHour 3 (some .int) (some (.int q), (n, K, P, I, L)) 4 [(0, .ref 12), (1, .int a1), (2, .int a2)] [] 0 0 (n, K, P, I, L) := by
  obtain ⟨d, rfl⟩ : ∃ d0, d = d0 + 1 := ⟨d - 1, by omega⟩
  intro f
  induction f with
  | zero => intro _ _ hm; exact nomatch (show (none : Option (Int32)) = some q from hm)
  | succ f ih =>
    intro a1 a2 hm
    rw [mX10_lastLogHour_4] at hm
    refine X_iload_n 2 dX10_lastLogHour_4 rfl rfl ?_
    refine X_aload_n 0 dX10_lastLogHour_5 rfl rfl rfl ?_
    refine X_getI fl_X10_53 (g_K12 G) rfl dX10_lastLogHour_6 ?_
    refine X_icmp_ge (tgt := 29) dX10_lastLogHour_9 (by decide) (fun c1 => ?_) (fun c1 => ?_)
    · replace hm := ip c1 hm
      refine X_iload_n 1 dX10_lastLogHour_29 rfl rfl ?_
      replace hm := Option.some.inj hm
      subst hm
      exact X_iret dX10_lastLogHour_30 rfl
    · replace hm := iq c1 hm
      refine X_iload_n 1 dX10_lastLogHour_12 rfl rfl ?_
      refine X_aload_n 0 dX10_lastLogHour_13 rfl rfl rfl ?_
      refine X_getPe fl_X10_29 (g_K12 G) rfl (g_P12_4 G) dX10_lastLogHour_14 ?_
      refine X_iload_n 2 dX10_lastLogHour_17 rfl rfl ?_
      obtain ⟨g2, hm⟩ := og hm
      refine X_ialdJ (g_K28 G) g2 rfl dX10_lastLogHour_18 ?_
      obtain ⟨q3, e4, hm⟩ := ob hm
      refine X_cS1 (kJ9_max_7cf53 d (by omega) G e4) ml_X10_59 ms_J9_max_7cf53 rfl rfl (Nat.le_refl _) ⟨Nat.le_refl _, Nat.le_refl _⟩ (Nat.le_of_ble_eq_true rfl) dX10_lastLogHour_19 ?_
      refine X_istore_n (lv' := [(1, .int q3), (0, .ref 12), (2, .int a2)]) dX10_lastLogHour_22 rfl (by decide) rfl ?_
      refine X_iinc (lv' := [(2, .int (a2 + 1)), (1, .int q3), (0, .ref 12)]) 2 dX10_lastLogHour_23 rfl rfl (by decide) rfl ?_
      refine X_goto (tgt := 4) dX10_lastLogHour_26 (by decide) ?_
      exact X_lv [2, 1, 0] rfl (ih _ _ hm)
def mX10_lastLogHour (I : Nat → Nat → Int32)  : Option (Int32) := (mX10_lastLogHour_4 I xf (0 : Int32) (0 : Int32))
set_option maxHeartbeats 400000 in
set_option maxRecDepth 100000 in
theorem kX10_lastLogHour {E : xE} {B : Nat} {n : Nat} {K : Nat → Nat × Nat} {P : Nat → Nat → Nat} {I : Nat → Nat → Int32} {L : Nat → Nat → Int64}   {q : Int32} (d : Nat) (hd : 1 ≤ d) (G : GW K P)   (hm : mX10_lastLogHour I = some q) : MX E B d 0 0 yX10_lastLogHour cX10_lastLogHour 3 (some .int) [.ref 12] (n, K, P, I, L) (some (.int q), (n, K, P, I, L)) := by
  refine MX_of (lv := [(0, .ref 12)]) (by decide +kernel) (Nat.le_of_ble_eq_true rfl) rfl ?_
  obtain ⟨d, rfl⟩ : ∃ d0, d = d0 + 1 := ⟨d - 1, by omega⟩
  unfold mX10_lastLogHour at hm
  refine X_iconst (v := (0 : Int32)) dX10_lastLogHour_0 (by decide) ?_
  refine X_istore_n (lv' := [(1, .int (0 : Int32)), (0, .ref 12)]) dX10_lastLogHour_1 rfl (by decide) rfl ?_
  refine X_iconst (v := (0 : Int32)) dX10_lastLogHour_2 (by decide) ?_
  refine X_istore_n (lv' := [(2, .int (0 : Int32)), (1, .int (0 : Int32)), (0, .ref 12)]) dX10_lastLogHour_3 rfl (by decide) rfl ?_
  refine X_lv [2, 1, 0] rfl (kX10_lastLogHour_4 _ hd G xf _ _  hm)
def mX10_copyFrom_21  (e50 : (Nat → Nat → Nat) → (Nat → Nat → Int32) → (Nat → Nat → Int64) → Nat → Nat → Option ((Nat → Nat → Nat) × (Nat → Nat → Int32) × (Nat → Nat → Int64))) : Nat → (Nat → Nat → Nat) → (Nat → Nat → Int32) → (Nat → Nat → Int64) → Nat → Nat → Int32 → Option ((Nat → Nat → Nat) × (Nat → Nat → Int32) × (Nat → Nat → Int64))
  | 0, _, _, _, _, _, _ => none
  | f + 1, P, I, L, a0, a1, a2 => (if (I a1 3) ≤ a2 then (e50 P I L a0 a1) else (if inb a2 20 = true then (if inb a2 20 = true then (Option.bind (mX6_copyFrom I L (P (a0 + 15) (ix a2)) (P (a1 + 15) (ix a2))) (fun q7 => (mX10_copyFrom_21 e50 f P q7.1 q7.2 a0 a1 (a2 + 1)))) else none) else none))
set_option maxHeartbeats 400000 in
set_option maxRecDepth 100000 in
theorem kX10_copyFrom_21 {E : xE} {B : Nat} {n : Nat} {K : Nat → Nat × Nat}  {e50 : (Nat → Nat → Nat) → (Nat → Nat → Int32) → (Nat → Nat → Int64) → Nat → Nat → Option ((Nat → Nat → Nat) × (Nat → Nat → Int32) × (Nat → Nat → Int64))} {q : (Nat → Nat → Nat) × (Nat → Nat → Int32) × (Nat → Nat → Int64)} (d : Nat) (hd : 2 ≤ d)   (he50 : ∀ (P : Nat → Nat → Nat) (I : Nat → Nat → Int32) (L : Nat → Nat → Int64) (a0 : Nat) (a1 : Nat), GW K P → K a0 = (9, 0) → K a1 = (9, 0) → e50 P I L a0 a1 = some q → X E B d 0 0 yX10_copyFrom cX10_copyFrom 3 (none : Option Jvm.ClassFile.FieldType) (none, (n, K, q.1, q.2.1, q.2.2)) 50 [(0, .ref a0), (1, .ref a1)] [] 0 0 (n, K, P, I, L)) : ∀ (f : Nat) (P : Nat → Nat → Nat) (I : Nat → Nat → Int32) (L : Nat → Nat → Int64) (a0 : Nat) (a1 : Nat) (a2 : Int32), GW K P → K a0 = (9, 0) → K a1 = (9, 0) → mX10_copyFrom_21 e50 f P I L a0 a1 a2 = some q → X E B d 0 0 yX10_copyFrom cX10_copyFrom 3 (none : Option Jvm.ClassFile.FieldType) (none, (n, K, q.1, q.2.1, q.2.2)) 21 [(0, .ref a0), (1, .ref a1), (2, .int a2)] [] 0 0 (n, K, P, I, L) := by
  obtain ⟨d, rfl⟩ : ∃ d0, d = d0 + 1 := ⟨d - 1, by omega⟩
  intro f
  induction f with
  | zero => intro _ _ _ _ _ _ _ _ _ hm; exact nomatch (show (none : Option ((Nat → Nat → Nat) × (Nat → Nat → Int32) × (Nat → Nat → Int64))) = some q from hm)
  | succ f ih =>
    intro P I L a0 a1 a2 G h0 h1 hm
    rw [mX10_copyFrom_21] at hm
    refine X_iload_n 2 dX10_copyFrom_21 rfl rfl ?_
    refine X_aload_n 1 dX10_copyFrom_22 rfl rfl rfl ?_
    refine X_getI fl_X10_50 h1 rfl dX10_copyFrom_23 ?_
    refine X_icmp_ge (tgt := 50) dX10_copyFrom_26 (by decide) (fun c4 => ?_) (fun c4 => ?_)
    · replace hm := ip c4 hm
      exact X_lv [0, 1] rfl (he50 _ _ _ _ _ G h0 h1 hm)
    · replace hm := iq c4 hm
      refine X_aload_n 0 dX10_copyFrom_29 rfl rfl rfl ?_
      refine X_getPe fl_X10_25 h0 rfl (gl9_P2 G h0) dX10_copyFrom_30 ?_
      refine X_iload_n 2 dX10_copyFrom_33 rfl rfl ?_
      obtain ⟨g5, hm⟩ := og hm
      refine X_aaldJ (gl9_K15 G h0) (by decide) rfl g5 rfl dX10_copyFrom_34 ?_
      refine X_aload_n 1 dX10_copyFrom_35 rfl rfl rfl ?_
      refine X_getPe fl_X10_25 h1 rfl (gl9_P2 G h1) dX10_copyFrom_36 ?_
      refine X_iload_n 2 dX10_copyFrom_39 rfl rfl ?_
      obtain ⟨g6, hm⟩ := og hm
      refine X_aaldJ (gl9_K15 G h1) (by decide) rfl g6 rfl dX10_copyFrom_40 ?_
      obtain ⟨q7, e8, hm⟩ := ob hm
      refine X_cV0 (ci := 5) (kX6_copyFrom d (by omega) G (gl9_kept G h0 (inb_lt g5)) (gl9_kept G h1 (inb_lt g6)) e8) ml_X10_46 mi_X6_copyFrom rfl cf_5 (gl9_kept G h0 (inb_lt g5)) rfl rfl (Nat.le_refl _) ⟨Nat.le_refl _, Nat.le_refl _⟩ (Nat.le_of_ble_eq_true rfl) dX10_copyFrom_41 ?_
      refine X_iinc (lv' := [(2, .int (a2 + 1)), (0, .ref a0), (1, .ref a1)]) 2 dX10_copyFrom_44 rfl rfl (by decide) rfl ?_
      refine X_goto (tgt := 21) dX10_copyFrom_47 (by decide) ?_
      exact X_lv [1, 2, 0] rfl (ih _ _ _ _ _ _ G h0 h1 hm)
def mX10_copyFrom  (P : Nat → Nat → Nat) (I : Nat → Nat → Int32) (L : Nat → Nat → Int64) (a0 : Nat) (a1 : Nat) : Option ((Nat → Nat → Nat) × (Nat → Nat → Int32) × (Nat → Nat → Int64)) := (Option.bind (mX6_copyFrom I L (a0 + 12) (a1 + 12)) (fun q2 => (mX10_copyFrom_21 (fun (P_9 : (Nat → Nat → Nat)) (I_9 : (Nat → Nat → Int32)) (L_9 : (Nat → Nat → Int64)) (a0_9 : Nat) (a1_9 : Nat) => (if xcb (0 : Int32) (0 : Int32) (10 : Int32) 10 10 = true then (if xcb (0 : Int32) (0 : Int32) (10 : Int32) 10 10 = true then (if xcb (0 : Int32) (0 : Int32) (10 : Int32) 10 10 = true then (some (P_9, (xu (xu (xu (xrow (xrow (xrow (xu I_9 a0_9 3 (I_9 a1_9 3)) (a0_9 + 16) (va_cpy ((xu I_9 a0_9 3 (I_9 a1_9 3)) (a1_9 + 16)) ((xu I_9 a0_9 3 (I_9 a1_9 3)) (a0_9 + 16)) (ix (0 : Int32)) (ix (0 : Int32)) (ix (10 : Int32)))) (a0_9 + 17) (va_cpy ((xrow (xu I_9 a0_9 3 (I_9 a1_9 3)) (a0_9 + 16) (va_cpy ((xu I_9 a0_9 3 (I_9 a1_9 3)) (a1_9 + 16)) ((xu I_9 a0_9 3 (I_9 a1_9 3)) (a0_9 + 16)) (ix (0 : Int32)) (ix (0 : Int32)) (ix (10 : Int32)))) (a1_9 + 17)) ((xrow (xu I_9 a0_9 3 (I_9 a1_9 3)) (a0_9 + 16) (va_cpy ((xu I_9 a0_9 3 (I_9 a1_9 3)) (a1_9 + 16)) ((xu I_9 a0_9 3 (I_9 a1_9 3)) (a0_9 + 16)) (ix (0 : Int32)) (ix (0 : Int32)) (ix (10 : Int32)))) (a0_9 + 17)) (ix (0 : Int32)) (ix (0 : Int32)) (ix (10 : Int32)))) (a0_9 + 18) (va_cpy ((xrow (xrow (xu I_9 a0_9 3 (I_9 a1_9 3)) (a0_9 + 16) (va_cpy ((xu I_9 a0_9 3 (I_9 a1_9 3)) (a1_9 + 16)) ((xu I_9 a0_9 3 (I_9 a1_9 3)) (a0_9 + 16)) (ix (0 : Int32)) (ix (0 : Int32)) (ix (10 : Int32)))) (a0_9 + 17) (va_cpy ((xrow (xu I_9 a0_9 3 (I_9 a1_9 3)) (a0_9 + 16) (va_cpy ((xu I_9 a0_9 3 (I_9 a1_9 3)) (a1_9 + 16)) ((xu I_9 a0_9 3 (I_9 a1_9 3)) (a0_9 + 16)) (ix (0 : Int32)) (ix (0 : Int32)) (ix (10 : Int32)))) (a1_9 + 17)) ((xrow (xu I_9 a0_9 3 (I_9 a1_9 3)) (a0_9 + 16) (va_cpy ((xu I_9 a0_9 3 (I_9 a1_9 3)) (a1_9 + 16)) ((xu I_9 a0_9 3 (I_9 a1_9 3)) (a0_9 + 16)) (ix (0 : Int32)) (ix (0 : Int32)) (ix (10 : Int32)))) (a0_9 + 17)) (ix (0 : Int32)) (ix (0 : Int32)) (ix (10 : Int32)))) (a1_9 + 18)) ((xrow (xrow (xu I_9 a0_9 3 (I_9 a1_9 3)) (a0_9 + 16) (va_cpy ((xu I_9 a0_9 3 (I_9 a1_9 3)) (a1_9 + 16)) ((xu I_9 a0_9 3 (I_9 a1_9 3)) (a0_9 + 16)) (ix (0 : Int32)) (ix (0 : Int32)) (ix (10 : Int32)))) (a0_9 + 17) (va_cpy ((xrow (xu I_9 a0_9 3 (I_9 a1_9 3)) (a0_9 + 16) (va_cpy ((xu I_9 a0_9 3 (I_9 a1_9 3)) (a1_9 + 16)) ((xu I_9 a0_9 3 (I_9 a1_9 3)) (a0_9 + 16)) (ix (0 : Int32)) (ix (0 : Int32)) (ix (10 : Int32)))) (a1_9 + 17)) ((xrow (xu I_9 a0_9 3 (I_9 a1_9 3)) (a0_9 + 16) (va_cpy ((xu I_9 a0_9 3 (I_9 a1_9 3)) (a1_9 + 16)) ((xu I_9 a0_9 3 (I_9 a1_9 3)) (a0_9 + 16)) (ix (0 : Int32)) (ix (0 : Int32)) (ix (10 : Int32)))) (a0_9 + 17)) (ix (0 : Int32)) (ix (0 : Int32)) (ix (10 : Int32)))) (a0_9 + 18)) (ix (0 : Int32)) (ix (0 : Int32)) (ix (10 : Int32)))) a0_9 7 ((xrow (xrow (xrow (xu I_9 a0_9 3 (I_9 a1_9 3)) (a0_9 + 16) (va_cpy ((xu I_9 a0_9 3 (I_9 a1_9 3)) (a1_9 + 16)) ((xu I_9 a0_9 3 (I_9 a1_9 3)) (a0_9 + 16)) (ix (0 : Int32)) (ix (0 : Int32)) (ix (10 : Int32)))) (a0_9 + 17) (va_cpy ((xrow (xu I_9 a0_9 3 (I_9 a1_9 3)) (a0_9 + 16) (va_cpy ((xu I_9 a0_9 3 (I_9 a1_9 3)) (a1_9 + 16)) ((xu I_9 a0_9 3 (I_9 a1_9 3)) (a0_9 + 16)) (ix (0 : Int32)) (ix (0 : Int32)) (ix (10 : Int32)))) (a1_9 + 17)) ((xrow (xu I_9 a0_9 3 (I_9 a1_9 3)) (a0_9 + 16) (va_cpy ((xu I_9 a0_9 3 (I_9 a1_9 3)) (a1_9 + 16)) ((xu I_9 a0_9 3 (I_9 a1_9 3)) (a0_9 + 16)) (ix (0 : Int32)) (ix (0 : Int32)) (ix (10 : Int32)))) (a0_9 + 17)) (ix (0 : Int32)) (ix (0 : Int32)) (ix (10 : Int32)))) (a0_9 + 18) (va_cpy ((xrow (xrow (xu I_9 a0_9 3 (I_9 a1_9 3)) (a0_9 + 16) (va_cpy ((xu I_9 a0_9 3 (I_9 a1_9 3)) (a1_9 + 16)) ((xu I_9 a0_9 3 (I_9 a1_9 3)) (a0_9 + 16)) (ix (0 : Int32)) (ix (0 : Int32)) (ix (10 : Int32)))) (a0_9 + 17) (va_cpy ((xrow (xu I_9 a0_9 3 (I_9 a1_9 3)) (a0_9 + 16) (va_cpy ((xu I_9 a0_9 3 (I_9 a1_9 3)) (a1_9 + 16)) ((xu I_9 a0_9 3 (I_9 a1_9 3)) (a0_9 + 16)) (ix (0 : Int32)) (ix (0 : Int32)) (ix (10 : Int32)))) (a1_9 + 17)) ((xrow (xu I_9 a0_9 3 (I_9 a1_9 3)) (a0_9 + 16) (va_cpy ((xu I_9 a0_9 3 (I_9 a1_9 3)) (a1_9 + 16)) ((xu I_9 a0_9 3 (I_9 a1_9 3)) (a0_9 + 16)) (ix (0 : Int32)) (ix (0 : Int32)) (ix (10 : Int32)))) (a0_9 + 17)) (ix (0 : Int32)) (ix (0 : Int32)) (ix (10 : Int32)))) (a1_9 + 18)) ((xrow (xrow (xu I_9 a0_9 3 (I_9 a1_9 3)) (a0_9 + 16) (va_cpy ((xu I_9 a0_9 3 (I_9 a1_9 3)) (a1_9 + 16)) ((xu I_9 a0_9 3 (I_9 a1_9 3)) (a0_9 + 16)) (ix (0 : Int32)) (ix (0 : Int32)) (ix (10 : Int32)))) (a0_9 + 17) (va_cpy ((xrow (xu I_9 a0_9 3 (I_9 a1_9 3)) (a0_9 + 16) (va_cpy ((xu I_9 a0_9 3 (I_9 a1_9 3)) (a1_9 + 16)) ((xu I_9 a0_9 3 (I_9 a1_9 3)) (a0_9 + 16)) (ix (0 : Int32)) (ix (0 : Int32)) (ix (10 : Int32)))) (a1_9 + 17)) ((xrow (xu I_9 a0_9 3 (I_9 a1_9 3)) (a0_9 + 16) (va_cpy ((xu I_9 a0_9 3 (I_9 a1_9 3)) (a1_9 + 16)) ((xu I_9 a0_9 3 (I_9 a1_9 3)) (a0_9 + 16)) (ix (0 : Int32)) (ix (0 : Int32)) (ix (10 : Int32)))) (a0_9 + 17)) (ix (0 : Int32)) (ix (0 : Int32)) (ix (10 : Int32)))) (a0_9 + 18)) (ix (0 : Int32)) (ix (0 : Int32)) (ix (10 : Int32)))) a1_9 7)) a0_9 8 ((xu (xrow (xrow (xrow (xu I_9 a0_9 3 (I_9 a1_9 3)) (a0_9 + 16) (va_cpy ((xu I_9 a0_9 3 (I_9 a1_9 3)) (a1_9 + 16)) ((xu I_9 a0_9 3 (I_9 a1_9 3)) (a0_9 + 16)) (ix (0 : Int32)) (ix (0 : Int32)) (ix (10 : Int32)))) (a0_9 + 17) (va_cpy ((xrow (xu I_9 a0_9 3 (I_9 a1_9 3)) (a0_9 + 16) (va_cpy ((xu I_9 a0_9 3 (I_9 a1_9 3)) (a1_9 + 16)) ((xu I_9 a0_9 3 (I_9 a1_9 3)) (a0_9 + 16)) (ix (0 : Int32)) (ix (0 : Int32)) (ix (10 : Int32)))) (a1_9 + 17)) ((xrow (xu I_9 a0_9 3 (I_9 a1_9 3)) (a0_9 + 16) (va_cpy ((xu I_9 a0_9 3 (I_9 a1_9 3)) (a1_9 + 16)) ((xu I_9 a0_9 3 (I_9 a1_9 3)) (a0_9 + 16)) (ix (0 : Int32)) (ix (0 : Int32)) (ix (10 : Int32)))) (a0_9 + 17)) (ix (0 : Int32)) (ix (0 : Int32)) (ix (10 : Int32)))) (a0_9 + 18) (va_cpy ((xrow (xrow (xu I_9 a0_9 3 (I_9 a1_9 3)) (a0_9 + 16) (va_cpy ((xu I_9 a0_9 3 (I_9 a1_9 3)) (a1_9 + 16)) ((xu I_9 a0_9 3 (I_9 a1_9 3)) (a0_9 + 16)) (ix (0 : Int32)) (ix (0 : Int32)) (ix (10 : Int32)))) (a0_9 + 17) (va_cpy ((xrow (xu I_9 a0_9 3 (I_9 a1_9 3)) (a0_9 + 16) (va_cpy ((xu I_9 a0_9 3 (I_9 a1_9 3)) (a1_9 + 16)) ((xu I_9 a0_9 3 (I_9 a1_9 3)) (a0_9 + 16)) (ix (0 : Int32)) (ix (0 : Int32)) (ix (10 : Int32)))) (a1_9 + 17)) ((xrow (xu I_9 a0_9 3 (I_9 a1_9 3)) (a0_9 + 16) (va_cpy ((xu I_9 a0_9 3 (I_9 a1_9 3)) (a1_9 + 16)) ((xu I_9 a0_9 3 (I_9 a1_9 3)) (a0_9 + 16)) (ix (0 : Int32)) (ix (0 : Int32)) (ix (10 : Int32)))) (a0_9 + 17)) (ix (0 : Int32)) (ix (0 : Int32)) (ix (10 : Int32)))) (a1_9 + 18)) ((xrow (xrow (xu I_9 a0_9 3 (I_9 a1_9 3)) (a0_9 + 16) (va_cpy ((xu I_9 a0_9 3 (I_9 a1_9 3)) (a1_9 + 16)) ((xu I_9 a0_9 3 (I_9 a1_9 3)) (a0_9 + 16)) (ix (0 : Int32)) (ix (0 : Int32)) (ix (10 : Int32)))) (a0_9 + 17) (va_cpy ((xrow (xu I_9 a0_9 3 (I_9 a1_9 3)) (a0_9 + 16) (va_cpy ((xu I_9 a0_9 3 (I_9 a1_9 3)) (a1_9 + 16)) ((xu I_9 a0_9 3 (I_9 a1_9 3)) (a0_9 + 16)) (ix (0 : Int32)) (ix (0 : Int32)) (ix (10 : Int32)))) (a1_9 + 17)) ((xrow (xu I_9 a0_9 3 (I_9 a1_9 3)) (a0_9 + 16) (va_cpy ((xu I_9 a0_9 3 (I_9 a1_9 3)) (a1_9 + 16)) ((xu I_9 a0_9 3 (I_9 a1_9 3)) (a0_9 + 16)) (ix (0 : Int32)) (ix (0 : Int32)) (ix (10 : Int32)))) (a0_9 + 17)) (ix (0 : Int32)) (ix (0 : Int32)) (ix (10 : Int32)))) (a0_9 + 18)) (ix (0 : Int32)) (ix (0 : Int32)) (ix (10 : Int32)))) a0_9 7 ((xrow (xrow (xrow (xu I_9 a0_9 3 (I_9 a1_9 3)) (a0_9 + 16) (va_cpy ((xu I_9 a0_9 3 (I_9 a1_9 3)) (a1_9 + 16)) ((xu I_9 a0_9 3 (I_9 a1_9 3)) (a0_9 + 16)) (ix (0 : Int32)) (ix (0 : Int32)) (ix (10 : Int32)))) (a0_9 + 17) (va_cpy ((xrow (xu I_9 a0_9 3 (I_9 a1_9 3)) (a0_9 + 16) (va_cpy ((xu I_9 a0_9 3 (I_9 a1_9 3)) (a1_9 + 16)) ((xu I_9 a0_9 3 (I_9 a1_9 3)) (a0_9 + 16)) (ix (0 : Int32)) (ix (0 : Int32)) (ix (10 : Int32)))) (a1_9 + 17)) ((xrow (xu I_9 a0_9 3 (I_9 a1_9 3)) (a0_9 + 16) (va_cpy ((xu I_9 a0_9 3 (I_9 a1_9 3)) (a1_9 + 16)) ((xu I_9 a0_9 3 (I_9 a1_9 3)) (a0_9 + 16)) (ix (0 : Int32)) (ix (0 : Int32)) (ix (10 : Int32)))) (a0_9 + 17)) (ix (0 : Int32)) (ix (0 : Int32)) (ix (10 : Int32)))) (a0_9 + 18) (va_cpy ((xrow (xrow (xu I_9 a0_9 3 (I_9 a1_9 3)) (a0_9 + 16) (va_cpy ((xu I_9 a0_9 3 (I_9 a1_9 3)) (a1_9 + 16)) ((xu I_9 a0_9 3 (I_9 a1_9 3)) (a0_9 + 16)) (ix (0 : Int32)) (ix (0 : Int32)) (ix (10 : Int32)))) (a0_9 + 17) (va_cpy ((xrow (xu I_9 a0_9 3 (I_9 a1_9 3)) (a0_9 + 16) (va_cpy ((xu I_9 a0_9 3 (I_9 a1_9 3)) (a1_9 + 16)) ((xu I_9 a0_9 3 (I_9 a1_9 3)) (a0_9 + 16)) (ix (0 : Int32)) (ix (0 : Int32)) (ix (10 : Int32)))) (a1_9 + 17)) ((xrow (xu I_9 a0_9 3 (I_9 a1_9 3)) (a0_9 + 16) (va_cpy ((xu I_9 a0_9 3 (I_9 a1_9 3)) (a1_9 + 16)) ((xu I_9 a0_9 3 (I_9 a1_9 3)) (a0_9 + 16)) (ix (0 : Int32)) (ix (0 : Int32)) (ix (10 : Int32)))) (a0_9 + 17)) (ix (0 : Int32)) (ix (0 : Int32)) (ix (10 : Int32)))) (a1_9 + 18)) ((xrow (xrow (xu I_9 a0_9 3 (I_9 a1_9 3)) (a0_9 + 16) (va_cpy ((xu I_9 a0_9 3 (I_9 a1_9 3)) (a1_9 + 16)) ((xu I_9 a0_9 3 (I_9 a1_9 3)) (a0_9 + 16)) (ix (0 : Int32)) (ix (0 : Int32)) (ix (10 : Int32)))) (a0_9 + 17) (va_cpy ((xrow (xu I_9 a0_9 3 (I_9 a1_9 3)) (a0_9 + 16) (va_cpy ((xu I_9 a0_9 3 (I_9 a1_9 3)) (a1_9 + 16)) ((xu I_9 a0_9 3 (I_9 a1_9 3)) (a0_9 + 16)) (ix (0 : Int32)) (ix (0 : Int32)) (ix (10 : Int32)))) (a1_9 + 17)) ((xrow (xu I_9 a0_9 3 (I_9 a1_9 3)) (a0_9 + 16) (va_cpy ((xu I_9 a0_9 3 (I_9 a1_9 3)) (a1_9 + 16)) ((xu I_9 a0_9 3 (I_9 a1_9 3)) (a0_9 + 16)) (ix (0 : Int32)) (ix (0 : Int32)) (ix (10 : Int32)))) (a0_9 + 17)) (ix (0 : Int32)) (ix (0 : Int32)) (ix (10 : Int32)))) (a0_9 + 18)) (ix (0 : Int32)) (ix (0 : Int32)) (ix (10 : Int32)))) a1_9 7)) a1_9 8)) a0_9 9 ((xu (xu (xrow (xrow (xrow (xu I_9 a0_9 3 (I_9 a1_9 3)) (a0_9 + 16) (va_cpy ((xu I_9 a0_9 3 (I_9 a1_9 3)) (a1_9 + 16)) ((xu I_9 a0_9 3 (I_9 a1_9 3)) (a0_9 + 16)) (ix (0 : Int32)) (ix (0 : Int32)) (ix (10 : Int32)))) (a0_9 + 17) (va_cpy ((xrow (xu I_9 a0_9 3 (I_9 a1_9 3)) (a0_9 + 16) (va_cpy ((xu I_9 a0_9 3 (I_9 a1_9 3)) (a1_9 + 16)) ((xu I_9 a0_9 3 (I_9 a1_9 3)) (a0_9 + 16)) (ix (0 : Int32)) (ix (0 : Int32)) (ix (10 : Int32)))) (a1_9 + 17)) ((xrow (xu I_9 a0_9 3 (I_9 a1_9 3)) (a0_9 + 16) (va_cpy ((xu I_9 a0_9 3 (I_9 a1_9 3)) (a1_9 + 16)) ((xu I_9 a0_9 3 (I_9 a1_9 3)) (a0_9 + 16)) (ix (0 : Int32)) (ix (0 : Int32)) (ix (10 : Int32)))) (a0_9 + 17)) (ix (0 : Int32)) (ix (0 : Int32)) (ix (10 : Int32)))) (a0_9 + 18) (va_cpy ((xrow (xrow (xu I_9 a0_9 3 (I_9 a1_9 3)) (a0_9 + 16) (va_cpy ((xu I_9 a0_9 3 (I_9 a1_9 3)) (a1_9 + 16)) ((xu I_9 a0_9 3 (I_9 a1_9 3)) (a0_9 + 16)) (ix (0 : Int32)) (ix (0 : Int32)) (ix (10 : Int32)))) (a0_9 + 17) (va_cpy ((xrow (xu I_9 a0_9 3 (I_9 a1_9 3)) (a0_9 + 16) (va_cpy ((xu I_9 a0_9 3 (I_9 a1_9 3)) (a1_9 + 16)) ((xu I_9 a0_9 3 (I_9 a1_9 3)) (a0_9 + 16)) (ix (0 : Int32)) (ix (0 : Int32)) (ix (10 : Int32)))) (a1_9 + 17)) ((xrow (xu I_9 a0_9 3 (I_9 a1_9 3)) (a0_9 + 16) (va_cpy ((xu I_9 a0_9 3 (I_9 a1_9 3)) (a1_9 + 16)) ((xu I_9 a0_9 3 (I_9 a1_9 3)) (a0_9 + 16)) (ix (0 : Int32)) (ix (0 : Int32)) (ix (10 : Int32)))) (a0_9 + 17)) (ix (0 : Int32)) (ix (0 : Int32)) (ix (10 : Int32)))) (a1_9 + 18)) ((xrow (xrow (xu I_9 a0_9 3 (I_9 a1_9 3)) (a0_9 + 16) (va_cpy ((xu I_9 a0_9 3 (I_9 a1_9 3)) (a1_9 + 16)) ((xu I_9 a0_9 3 (I_9 a1_9 3)) (a0_9 + 16)) (ix (0 : Int32)) (ix (0 : Int32)) (ix (10 : Int32)))) (a0_9 + 17) (va_cpy ((xrow (xu I_9 a0_9 3 (I_9 a1_9 3)) (a0_9 + 16) (va_cpy ((xu I_9 a0_9 3 (I_9 a1_9 3)) (a1_9 + 16)) ((xu I_9 a0_9 3 (I_9 a1_9 3)) (a0_9 + 16)) (ix (0 : Int32)) (ix (0 : Int32)) (ix (10 : Int32)))) (a1_9 + 17)) ((xrow (xu I_9 a0_9 3 (I_9 a1_9 3)) (a0_9 + 16) (va_cpy ((xu I_9 a0_9 3 (I_9 a1_9 3)) (a1_9 + 16)) ((xu I_9 a0_9 3 (I_9 a1_9 3)) (a0_9 + 16)) (ix (0 : Int32)) (ix (0 : Int32)) (ix (10 : Int32)))) (a0_9 + 17)) (ix (0 : Int32)) (ix (0 : Int32)) (ix (10 : Int32)))) (a0_9 + 18)) (ix (0 : Int32)) (ix (0 : Int32)) (ix (10 : Int32)))) a0_9 7 ((xrow (xrow (xrow (xu I_9 a0_9 3 (I_9 a1_9 3)) (a0_9 + 16) (va_cpy ((xu I_9 a0_9 3 (I_9 a1_9 3)) (a1_9 + 16)) ((xu I_9 a0_9 3 (I_9 a1_9 3)) (a0_9 + 16)) (ix (0 : Int32)) (ix (0 : Int32)) (ix (10 : Int32)))) (a0_9 + 17) (va_cpy ((xrow (xu I_9 a0_9 3 (I_9 a1_9 3)) (a0_9 + 16) (va_cpy ((xu I_9 a0_9 3 (I_9 a1_9 3)) (a1_9 + 16)) ((xu I_9 a0_9 3 (I_9 a1_9 3)) (a0_9 + 16)) (ix (0 : Int32)) (ix (0 : Int32)) (ix (10 : Int32)))) (a1_9 + 17)) ((xrow (xu I_9 a0_9 3 (I_9 a1_9 3)) (a0_9 + 16) (va_cpy ((xu I_9 a0_9 3 (I_9 a1_9 3)) (a1_9 + 16)) ((xu I_9 a0_9 3 (I_9 a1_9 3)) (a0_9 + 16)) (ix (0 : Int32)) (ix (0 : Int32)) (ix (10 : Int32)))) (a0_9 + 17)) (ix (0 : Int32)) (ix (0 : Int32)) (ix (10 : Int32)))) (a0_9 + 18) (va_cpy ((xrow (xrow (xu I_9 a0_9 3 (I_9 a1_9 3)) (a0_9 + 16) (va_cpy ((xu I_9 a0_9 3 (I_9 a1_9 3)) (a1_9 + 16)) ((xu I_9 a0_9 3 (I_9 a1_9 3)) (a0_9 + 16)) (ix (0 : Int32)) (ix (0 : Int32)) (ix (10 : Int32)))) (a0_9 + 17) (va_cpy ((xrow (xu I_9 a0_9 3 (I_9 a1_9 3)) (a0_9 + 16) (va_cpy ((xu I_9 a0_9 3 (I_9 a1_9 3)) (a1_9 + 16)) ((xu I_9 a0_9 3 (I_9 a1_9 3)) (a0_9 + 16)) (ix (0 : Int32)) (ix (0 : Int32)) (ix (10 : Int32)))) (a1_9 + 17)) ((xrow (xu I_9 a0_9 3 (I_9 a1_9 3)) (a0_9 + 16) (va_cpy ((xu I_9 a0_9 3 (I_9 a1_9 3)) (a1_9 + 16)) ((xu I_9 a0_9 3 (I_9 a1_9 3)) (a0_9 + 16)) (ix (0 : Int32)) (ix (0 : Int32)) (ix (10 : Int32)))) (a0_9 + 17)) (ix (0 : Int32)) (ix (0 : Int32)) (ix (10 : Int32)))) (a1_9 + 18)) ((xrow (xrow (xu I_9 a0_9 3 (I_9 a1_9 3)) (a0_9 + 16) (va_cpy ((xu I_9 a0_9 3 (I_9 a1_9 3)) (a1_9 + 16)) ((xu I_9 a0_9 3 (I_9 a1_9 3)) (a0_9 + 16)) (ix (0 : Int32)) (ix (0 : Int32)) (ix (10 : Int32)))) (a0_9 + 17) (va_cpy ((xrow (xu I_9 a0_9 3 (I_9 a1_9 3)) (a0_9 + 16) (va_cpy ((xu I_9 a0_9 3 (I_9 a1_9 3)) (a1_9 + 16)) ((xu I_9 a0_9 3 (I_9 a1_9 3)) (a0_9 + 16)) (ix (0 : Int32)) (ix (0 : Int32)) (ix (10 : Int32)))) (a1_9 + 17)) ((xrow (xu I_9 a0_9 3 (I_9 a1_9 3)) (a0_9 + 16) (va_cpy ((xu I_9 a0_9 3 (I_9 a1_9 3)) (a1_9 + 16)) ((xu I_9 a0_9 3 (I_9 a1_9 3)) (a0_9 + 16)) (ix (0 : Int32)) (ix (0 : Int32)) (ix (10 : Int32)))) (a0_9 + 17)) (ix (0 : Int32)) (ix (0 : Int32)) (ix (10 : Int32)))) (a0_9 + 18)) (ix (0 : Int32)) (ix (0 : Int32)) (ix (10 : Int32)))) a1_9 7)) a0_9 8 ((xu (xrow (xrow (xrow (xu I_9 a0_9 3 (I_9 a1_9 3)) (a0_9 + 16) (va_cpy ((xu I_9 a0_9 3 (I_9 a1_9 3)) (a1_9 + 16)) ((xu I_9 a0_9 3 (I_9 a1_9 3)) (a0_9 + 16)) (ix (0 : Int32)) (ix (0 : Int32)) (ix (10 : Int32)))) (a0_9 + 17) (va_cpy ((xrow (xu I_9 a0_9 3 (I_9 a1_9 3)) (a0_9 + 16) (va_cpy ((xu I_9 a0_9 3 (I_9 a1_9 3)) (a1_9 + 16)) ((xu I_9 a0_9 3 (I_9 a1_9 3)) (a0_9 + 16)) (ix (0 : Int32)) (ix (0 : Int32)) (ix (10 : Int32)))) (a1_9 + 17)) ((xrow (xu I_9 a0_9 3 (I_9 a1_9 3)) (a0_9 + 16) (va_cpy ((xu I_9 a0_9 3 (I_9 a1_9 3)) (a1_9 + 16)) ((xu I_9 a0_9 3 (I_9 a1_9 3)) (a0_9 + 16)) (ix (0 : Int32)) (ix (0 : Int32)) (ix (10 : Int32)))) (a0_9 + 17)) (ix (0 : Int32)) (ix (0 : Int32)) (ix (10 : Int32)))) (a0_9 + 18) (va_cpy ((xrow (xrow (xu I_9 a0_9 3 (I_9 a1_9 3)) (a0_9 + 16) (va_cpy ((xu I_9 a0_9 3 (I_9 a1_9 3)) (a1_9 + 16)) ((xu I_9 a0_9 3 (I_9 a1_9 3)) (a0_9 + 16)) (ix (0 : Int32)) (ix (0 : Int32)) (ix (10 : Int32)))) (a0_9 + 17) (va_cpy ((xrow (xu I_9 a0_9 3 (I_9 a1_9 3)) (a0_9 + 16) (va_cpy ((xu I_9 a0_9 3 (I_9 a1_9 3)) (a1_9 + 16)) ((xu I_9 a0_9 3 (I_9 a1_9 3)) (a0_9 + 16)) (ix (0 : Int32)) (ix (0 : Int32)) (ix (10 : Int32)))) (a1_9 + 17)) ((xrow (xu I_9 a0_9 3 (I_9 a1_9 3)) (a0_9 + 16) (va_cpy ((xu I_9 a0_9 3 (I_9 a1_9 3)) (a1_9 + 16)) ((xu I_9 a0_9 3 (I_9 a1_9 3)) (a0_9 + 16)) (ix (0 : Int32)) (ix (0 : Int32)) (ix (10 : Int32)))) (a0_9 + 17)) (ix (0 : Int32)) (ix (0 : Int32)) (ix (10 : Int32)))) (a1_9 + 18)) ((xrow (xrow (xu I_9 a0_9 3 (I_9 a1_9 3)) (a0_9 + 16) (va_cpy ((xu I_9 a0_9 3 (I_9 a1_9 3)) (a1_9 + 16)) ((xu I_9 a0_9 3 (I_9 a1_9 3)) (a0_9 + 16)) (ix (0 : Int32)) (ix (0 : Int32)) (ix (10 : Int32)))) (a0_9 + 17) (va_cpy ((xrow (xu I_9 a0_9 3 (I_9 a1_9 3)) (a0_9 + 16) (va_cpy ((xu I_9 a0_9 3 (I_9 a1_9 3)) (a1_9 + 16)) ((xu I_9 a0_9 3 (I_9 a1_9 3)) (a0_9 + 16)) (ix (0 : Int32)) (ix (0 : Int32)) (ix (10 : Int32)))) (a1_9 + 17)) ((xrow (xu I_9 a0_9 3 (I_9 a1_9 3)) (a0_9 + 16) (va_cpy ((xu I_9 a0_9 3 (I_9 a1_9 3)) (a1_9 + 16)) ((xu I_9 a0_9 3 (I_9 a1_9 3)) (a0_9 + 16)) (ix (0 : Int32)) (ix (0 : Int32)) (ix (10 : Int32)))) (a0_9 + 17)) (ix (0 : Int32)) (ix (0 : Int32)) (ix (10 : Int32)))) (a0_9 + 18)) (ix (0 : Int32)) (ix (0 : Int32)) (ix (10 : Int32)))) a0_9 7 ((xrow (xrow (xrow (xu I_9 a0_9 3 (I_9 a1_9 3)) (a0_9 + 16) (va_cpy ((xu I_9 a0_9 3 (I_9 a1_9 3)) (a1_9 + 16)) ((xu I_9 a0_9 3 (I_9 a1_9 3)) (a0_9 + 16)) (ix (0 : Int32)) (ix (0 : Int32)) (ix (10 : Int32)))) (a0_9 + 17) (va_cpy ((xrow (xu I_9 a0_9 3 (I_9 a1_9 3)) (a0_9 + 16) (va_cpy ((xu I_9 a0_9 3 (I_9 a1_9 3)) (a1_9 + 16)) ((xu I_9 a0_9 3 (I_9 a1_9 3)) (a0_9 + 16)) (ix (0 : Int32)) (ix (0 : Int32)) (ix (10 : Int32)))) (a1_9 + 17)) ((xrow (xu I_9 a0_9 3 (I_9 a1_9 3)) (a0_9 + 16) (va_cpy ((xu I_9 a0_9 3 (I_9 a1_9 3)) (a1_9 + 16)) ((xu I_9 a0_9 3 (I_9 a1_9 3)) (a0_9 + 16)) (ix (0 : Int32)) (ix (0 : Int32)) (ix (10 : Int32)))) (a0_9 + 17)) (ix (0 : Int32)) (ix (0 : Int32)) (ix (10 : Int32)))) (a0_9 + 18) (va_cpy ((xrow (xrow (xu I_9 a0_9 3 (I_9 a1_9 3)) (a0_9 + 16) (va_cpy ((xu I_9 a0_9 3 (I_9 a1_9 3)) (a1_9 + 16)) ((xu I_9 a0_9 3 (I_9 a1_9 3)) (a0_9 + 16)) (ix (0 : Int32)) (ix (0 : Int32)) (ix (10 : Int32)))) (a0_9 + 17) (va_cpy ((xrow (xu I_9 a0_9 3 (I_9 a1_9 3)) (a0_9 + 16) (va_cpy ((xu I_9 a0_9 3 (I_9 a1_9 3)) (a1_9 + 16)) ((xu I_9 a0_9 3 (I_9 a1_9 3)) (a0_9 + 16)) (ix (0 : Int32)) (ix (0 : Int32)) (ix (10 : Int32)))) (a1_9 + 17)) ((xrow (xu I_9 a0_9 3 (I_9 a1_9 3)) (a0_9 + 16) (va_cpy ((xu I_9 a0_9 3 (I_9 a1_9 3)) (a1_9 + 16)) ((xu I_9 a0_9 3 (I_9 a1_9 3)) (a0_9 + 16)) (ix (0 : Int32)) (ix (0 : Int32)) (ix (10 : Int32)))) (a0_9 + 17)) (ix (0 : Int32)) (ix (0 : Int32)) (ix (10 : Int32)))) (a1_9 + 18)) ((xrow (xrow (xu I_9 a0_9 3 (I_9 a1_9 3)) (a0_9 + 16) (va_cpy ((xu I_9 a0_9 3 (I_9 a1_9 3)) (a1_9 + 16)) ((xu I_9 a0_9 3 (I_9 a1_9 3)) (a0_9 + 16)) (ix (0 : Int32)) (ix (0 : Int32)) (ix (10 : Int32)))) (a0_9 + 17) (va_cpy ((xrow (xu I_9 a0_9 3 (I_9 a1_9 3)) (a0_9 + 16) (va_cpy ((xu I_9 a0_9 3 (I_9 a1_9 3)) (a1_9 + 16)) ((xu I_9 a0_9 3 (I_9 a1_9 3)) (a0_9 + 16)) (ix (0 : Int32)) (ix (0 : Int32)) (ix (10 : Int32)))) (a1_9 + 17)) ((xrow (xu I_9 a0_9 3 (I_9 a1_9 3)) (a0_9 + 16) (va_cpy ((xu I_9 a0_9 3 (I_9 a1_9 3)) (a1_9 + 16)) ((xu I_9 a0_9 3 (I_9 a1_9 3)) (a0_9 + 16)) (ix (0 : Int32)) (ix (0 : Int32)) (ix (10 : Int32)))) (a0_9 + 17)) (ix (0 : Int32)) (ix (0 : Int32)) (ix (10 : Int32)))) (a0_9 + 18)) (ix (0 : Int32)) (ix (0 : Int32)) (ix (10 : Int32)))) a1_9 7)) a1_9 8)) a1_9 9)), L_9)) else none) else none) else none)) xf (xu P a0 0 (P a1 0)) q2.1 q2.2 a0 a1 (0 : Int32))))
set_option maxHeartbeats 400000 in
set_option maxRecDepth 100000 in
theorem kX10_copyFrom {E : xE} {B : Nat} {n : Nat} {K : Nat → Nat × Nat} {P : Nat → Nat → Nat} {I : Nat → Nat → Int32} {L : Nat → Nat → Int64}  {a0 : Nat} {a1 : Nat} {q : (Nat → Nat → Nat) × (Nat → Nat → Int32) × (Nat → Nat → Int64)} (d : Nat) (hd : 2 ≤ d) (G : GW K P)  (h0 : K a0 = (9, 0)) (h1 : K a1 = (9, 0)) (hm : mX10_copyFrom P I L a0 a1 = some q) : MX E B d 0 0 yX10_copyFrom cX10_copyFrom 3 (none : Option Jvm.ClassFile.FieldType) [.ref a0, .ref a1] (n, K, P, I, L) (none, (n, K, q.1, q.2.1, q.2.2)) := by
  refine MX_of (lv := [(0, .ref a0), (1, .ref a1)]) (by decide +kernel) (Nat.le_of_ble_eq_true rfl) rfl ?_
  obtain ⟨d, rfl⟩ : ∃ d0, d = d0 + 1 := ⟨d - 1, by omega⟩
  unfold mX10_copyFrom at hm
  refine X_aload_n 0 dX10_copyFrom_0 rfl rfl rfl ?_
  refine X_aload_n 1 dX10_copyFrom_1 rfl rfl rfl ?_
  refine X_getP fl_X10_12 h1 rfl dX10_copyFrom_2 ?_
  have G1 := gw_upd G a0 0 (P a1 0) (Or.inl ⟨h0, rfl, (gl9_st G h1)⟩)
  refine X_putP false fl_X10_12 h0 rfl rfl (fun h => by cases h) dX10_copyFrom_5 ?_
  refine X_aload_n 0 dX10_copyFrom_8 rfl rfl rfl ?_
  refine X_getPe fl_X10_21 h0 rfl (gl9_P1 G1 h0) dX10_copyFrom_9 ?_
  refine X_aload_n 1 dX10_copyFrom_12 rfl rfl rfl ?_
  refine X_getPe fl_X10_21 h1 rfl (gl9_P1 G1 h1) dX10_copyFrom_13 ?_
  obtain ⟨q2, e3, hm⟩ := ob hm
  refine X_cV0 (ci := 5) (kX6_copyFrom d (by omega) G1 (gl9_K12 G1 h0) (gl9_K12 G1 h1) e3) ml_X10_46 mi_X6_copyFrom rfl cf_5 (gl9_K12 G1 h0) rfl rfl (Nat.le_refl _) ⟨Nat.le_refl _, Nat.le_refl _⟩ (Nat.le_of_ble_eq_true rfl) dX10_copyFrom_16 ?_
  refine X_iconst (v := (0 : Int32)) dX10_copyFrom_19 (by decide) ?_
  refine X_istore_n (lv' := [(2, .int (0 : Int32)), (0, .ref a0), (1, .ref a1)]) dX10_copyFrom_20 rfl (by decide) rfl ?_
  refine X_lv [1, 2, 0] rfl (kX10_copyFrom_21 _ hd (fun P_9 I_9 L_9 a0_9 a1_9 G_9 h0_9 h1_9 hm => ?_) xf _ _ _ _ _ _ G1 h0 h1 hm)
  refine X_aload_n 0 dX10_copyFrom_50 rfl rfl rfl ?_
  refine X_aload_n 1 dX10_copyFrom_51 rfl rfl rfl ?_
  refine X_getI fl_X10_50 h1_9 rfl dX10_copyFrom_52 ?_
  refine X_putI fl_X10_50 h0_9 rfl rfl dX10_copyFrom_55 ?_
  refine X_aload_n 1 dX10_copyFrom_58 rfl rfl rfl ?_
  refine X_getPe fl_X10_29 h1_9 rfl (gl9_P4 G_9 h1_9) dX10_copyFrom_59 ?_
  refine X_iconst (v := (0 : Int32)) dX10_copyFrom_62 (by decide) ?_
  refine X_aload_n 0 dX10_copyFrom_63 rfl rfl rfl ?_
  refine X_getPe fl_X10_29 h0_9 rfl (gl9_P4 G_9 h0_9) dX10_copyFrom_64 ?_
  refine X_iconst (v := (0 : Int32)) dX10_copyFrom_67 (by decide) ?_
  refine X_bipush (v := (10 : Int32)) dX10_copyFrom_68 (by decide) ?_
  obtain ⟨g12, hm⟩ := og hm
  refine X_copyI (gl9_K16 G_9 h1_9) (gl9_K16 G_9 h0_9) al_X10_65 ay_n ay_s ay_i g12 (by omega) (Nat.le_of_ble_eq_true rfl) dX10_copyFrom_70 ?_
  refine X_aload_n 1 dX10_copyFrom_73 rfl rfl rfl ?_
  refine X_getPe fl_X10_33 h1_9 rfl (gl9_P5 G_9 h1_9) dX10_copyFrom_74 ?_
  refine X_iconst (v := (0 : Int32)) dX10_copyFrom_77 (by decide) ?_
  refine X_aload_n 0 dX10_copyFrom_78 rfl rfl rfl ?_
  refine X_getPe fl_X10_33 h0_9 rfl (gl9_P5 G_9 h0_9) dX10_copyFrom_79 ?_
  refine X_iconst (v := (0 : Int32)) dX10_copyFrom_82 (by decide) ?_
  refine X_bipush (v := (10 : Int32)) dX10_copyFrom_83 (by decide) ?_
  obtain ⟨g11, hm⟩ := og hm
  refine X_copyI (gl9_K17 G_9 h1_9) (gl9_K17 G_9 h0_9) al_X10_65 ay_n ay_s ay_i g11 (by omega) (Nat.le_of_ble_eq_true rfl) dX10_copyFrom_85 ?_
  refine X_aload_n 1 dX10_copyFrom_88 rfl rfl rfl ?_
  refine X_getPe fl_X10_36 h1_9 rfl (gl9_P6 G_9 h1_9) dX10_copyFrom_89 ?_
  refine X_iconst (v := (0 : Int32)) dX10_copyFrom_92 (by decide) ?_
  refine X_aload_n 0 dX10_copyFrom_93 rfl rfl rfl ?_
  refine X_getPe fl_X10_36 h0_9 rfl (gl9_P6 G_9 h0_9) dX10_copyFrom_94 ?_
  refine X_iconst (v := (0 : Int32)) dX10_copyFrom_97 (by decide) ?_
  refine X_bipush (v := (10 : Int32)) dX10_copyFrom_98 (by decide) ?_
  obtain ⟨g10, hm⟩ := og hm
  refine X_copyI (gl9_K18 G_9 h1_9) (gl9_K18 G_9 h0_9) al_X10_65 ay_n ay_s ay_i g10 (by omega) (Nat.le_of_ble_eq_true rfl) dX10_copyFrom_100 ?_
  refine X_aload_n 0 dX10_copyFrom_103 rfl rfl rfl ?_
  refine X_aload_n 1 dX10_copyFrom_104 rfl rfl rfl ?_
  refine X_getI fl_X10_53 h1_9 rfl dX10_copyFrom_105 ?_
  refine X_putI fl_X10_53 h0_9 rfl rfl dX10_copyFrom_108 ?_
  refine X_aload_n 0 dX10_copyFrom_111 rfl rfl rfl ?_
  refine X_aload_n 1 dX10_copyFrom_112 rfl rfl rfl ?_
  refine X_getI fl_X10_71 h1_9 rfl dX10_copyFrom_113 ?_
  refine X_putI fl_X10_71 h0_9 rfl rfl dX10_copyFrom_116 ?_
  refine X_aload_n 0 dX10_copyFrom_119 rfl rfl rfl ?_
  refine X_aload_n 1 dX10_copyFrom_120 rfl rfl rfl ?_
  refine X_getI fl_X10_39 h1_9 rfl dX10_copyFrom_121 ?_
  refine X_putI fl_X10_39 h0_9 rfl rfl dX10_copyFrom_124 ?_
  replace hm := Option.some.inj hm
  subst hm
  exact X_vret dX10_copyFrom_127 rfl
theorem gwc_21 {K : Nat → Nat × Nat} {q : (Nat → Nat → Nat) × (Nat → Nat → Int32) × (Nat → Nat → Int64)} {e50 : (Nat → Nat → Nat) → (Nat → Nat → Int32) → (Nat → Nat → Int64) → Nat → Nat → Option ((Nat → Nat → Nat) × (Nat → Nat → Int32) × (Nat → Nat → Int64))} (he : ∀ P I L a0 a1, GW K P → e50 P I L a0 a1 = some q → GW K q.1) : ∀ (f : Nat) (P : Nat → Nat → Nat) (I : Nat → Nat → Int32) (L : Nat → Nat → Int64) (a0 a1 : Nat) (a2 : Int32), GW K P → mX10_copyFrom_21 e50 f P I L a0 a1 a2 = some q → GW K q.1 := by
  intro f
  induction f with
  | zero => intro P I L a0 a1 a2 G hm; exact nomatch (show (none : Option ((Nat → Nat → Nat) × (Nat → Nat → Int32) × (Nat → Nat → Int64))) = some q from hm)
  | succ f ih =>
    intro P I L a0 a1 a2 G hm
    rw [mX10_copyFrom_21] at hm
    refine Or.elim (Decidable.em (I a1 3 ≤ a2)) (fun c => ?_) (fun c => ?_)
    · exact he _ _ _ _ _ G (ip c hm)
    · replace hm := iq c hm
      obtain ⟨g1, hm⟩ := og hm
      obtain ⟨g2, hm⟩ := og hm
      obtain ⟨q1, e1, hm⟩ := ob hm
      exact ih _ _ _ _ _ _ G hm
theorem gw_X10_copyFrom {K : Nat → Nat × Nat} {P : Nat → Nat → Nat} {I : Nat → Nat → Int32} {L : Nat → Nat → Int64} {a0 a1 : Nat} {q : (Nat → Nat → Nat) × (Nat → Nat → Int32) × (Nat → Nat → Int64)} (G : GW K P) (h0 : K a0 = (9, 0)) (h1 : K a1 = (9, 0)) (e : mX10_copyFrom P I L a0 a1 = some q) : GW K q.1 := by
  unfold mX10_copyFrom at e
  obtain ⟨q1, e1, e⟩ := ob e
  refine gwc_21 (fun P I L a0 a1 G hm => ?_) xf _ _ _ _ _ _ (gw_upd G a0 0 (P a1 0) (Or.inl ⟨h0, rfl, gl9_st G h1⟩)) e
  obtain ⟨g1, hm⟩ := og hm
  obtain ⟨g2, hm⟩ := og hm
  obtain ⟨g3, hm⟩ := og hm
  replace hm := Option.some.inj hm
  subst hm
  exact G
def mX11_append_3   : Nat → (Nat → Nat → Int32) → Int32 → Int32 → Option ((Nat → Nat → Int32))
  | 0, _, _, _ => none
  | f + 1, I, a1, a2 => (if a2 < 0 then (some I) else (if (400 : Int32) ≤ (I 1 1) then (mX11_append_3 f I a1 (a2 + (-8))) else (if inb (I 1 1) 400 = true then (mX11_append_3 f (xu (xu I 2 (ix (I 1 1)) (xi2b (xi2b (xushr a1 a2)))) 1 1 (((xu I 2 (ix (I 1 1)) (xi2b (xi2b (xushr a1 a2)))) 1 1) + (1 : Int32))) a1 (a2 + (-8))) else none)))
set_option maxHeartbeats 400000 in
set_option maxRecDepth 100000 in
theorem kX11_append_3 {E : xE} {B : Nat} {n : Nat} {K : Nat → Nat × Nat} {P : Nat → Nat → Nat} {L : Nat → Nat → Int64}   {q : (Nat → Nat → Int32)} (d : Nat) (hd : 0 ≤ d) (G : GW K P)   : ∀ (f : Nat) (I : Nat → Nat → Int32) (a1 : Int32) (a2 : Int32), mX11_append_3 f I a1 a2 = some q → X E B d 0 0 yX11_append cX11_append 3 (none : Option Jvm.ClassFile.FieldType) (none, (n, K, P, q, L)) 3 [(0, .ref 1), (1, .int a1), (2, .int a2)] [] 0 0 (n, K, P, I, L) := by
  intro f
  induction f with
  | zero => intro _ _ _ hm; exact nomatch (show (none : Option ((Nat → Nat → Int32))) = some q from hm)
  | succ f ih =>
    intro I a1 a2 hm
    rw [mX11_append_3] at hm
    refine X_iload_n 2 dX11_append_3 rfl rfl ?_
    refine X_if_lt (tgt := 46) dX11_append_4 (by decide) (fun c1 => ?_) (fun c1 => ?_)
    · replace hm := ip c1 hm
      replace hm := Option.some.inj hm
      subst hm
      exact X_vret dX11_append_46 rfl
    · replace hm := iq c1 hm
      refine X_aload_n 0 dX11_append_7 rfl rfl rfl ?_
      refine X_getI fl_X11_84 (g_K1 G) rfl dX11_append_8 ?_
      refine X_sipush (v := (400 : Int32)) dX11_append_11 (by decide) ?_
      refine X_icmp_ge (tgt := 40) dX11_append_14 (by decide) (fun c2 => ?_) (fun c2 => ?_)
      · replace hm := ip c2 hm
        refine X_iinc (lv' := [(2, .int (a2 + (-8))), (0, .ref 1), (1, .int a1)]) 2 dX11_append_40 rfl rfl (by decide) rfl ?_
        refine X_goto (tgt := 3) dX11_append_43 (by decide) ?_
        exact X_lv [1, 2, 0] rfl (ih _ _ _ hm)
      · replace hm := iq c2 hm
        refine X_aload_n 0 dX11_append_17 rfl rfl rfl ?_
        refine X_getPe fl_X11_9 (g_K1 G) rfl (g_P1_0 G) dX11_append_18 ?_
        refine X_aload_n 0 dX11_append_21 rfl rfl rfl ?_
        refine X_getI fl_X11_84 (g_K1 G) rfl dX11_append_22 ?_
        refine X_iload_n 1 dX11_append_25 rfl rfl ?_
        refine X_iload_n 2 dX11_append_26 rfl rfl ?_
        refine X_iushr dX11_append_27 ?_
        refine X_i2b dX11_append_28 ?_
        obtain ⟨g3, hm⟩ := og hm
        refine X_bastJ (g_K2 G) g3 rfl dX11_append_29 ?_
        refine X_aload_n 0 dX11_append_30 rfl rfl rfl ?_
        refine X_dup dX11_append_31 rfl ?_
        refine X_getI fl_X11_84 (g_K1 G) rfl dX11_append_32 ?_
        refine X_iconst (v := (1 : Int32)) dX11_append_35 (by decide) ?_
        refine X_iadd dX11_append_36 ?_
        refine X_putI fl_X11_84 (g_K1 G) rfl rfl dX11_append_37 ?_
        refine X_iinc (lv' := [(2, .int (a2 + (-8))), (0, .ref 1), (1, .int a1)]) 2 dX11_append_40 rfl rfl (by decide) rfl ?_
        refine X_goto (tgt := 3) dX11_append_43 (by decide) ?_
        exact X_lv [1, 2, 0] rfl (ih _ _ _ hm)
def mX11_append  (I : Nat → Nat → Int32) (a1 : Int32) : Option ((Nat → Nat → Int32)) := (mX11_append_3 xf I a1 (24 : Int32))
set_option maxHeartbeats 400000 in
set_option maxRecDepth 100000 in
theorem kX11_append {E : xE} {B : Nat} {n : Nat} {K : Nat → Nat × Nat} {P : Nat → Nat → Nat} {I : Nat → Nat → Int32} {L : Nat → Nat → Int64}  {a1 : Int32} {q : (Nat → Nat → Int32)} (d : Nat) (hd : 0 ≤ d) (G : GW K P)   (hm : mX11_append I a1 = some q) : MX E B d 0 0 yX11_append cX11_append 3 (none : Option Jvm.ClassFile.FieldType) [.ref 1, .int a1] (n, K, P, I, L) (none, (n, K, P, q, L)) := by
  refine MX_of (lv := [(0, .ref 1), (1, .int a1)]) (by decide +kernel) (Nat.le_of_ble_eq_true rfl) rfl ?_
  unfold mX11_append at hm
  refine X_bipush (v := (24 : Int32)) dX11_append_0 (by decide) ?_
  refine X_istore_n (lv' := [(2, .int (24 : Int32)), (0, .ref 1), (1, .int a1)]) dX11_append_2 rfl (by decide) rfl ?_
  refine X_lv [1, 2, 0] rfl (kX11_append_3 _ hd G xf _ _ _  hm)
def mX11_feed  (I : Nat → Nat → Int32) (a1 : Int32) (a2 : Int32) (a3 : Int32) (a4 : Int32) (a5 : Int32) : Option (Int32 × (Nat → Nat → Int32)) := (if (I 1 1) ≤ (380 : Int32) then (Option.bind (mX11_append I a1) (fun q2 => (Option.bind (mX11_append q2 a2) (fun q4 => (Option.bind (mX11_append q4 a3) (fun q6 => (Option.bind (mX11_append q6 a4) (fun q8 => (Option.bind (mX11_append q8 a5) (fun q10 => (some ((q10 1 1), q10)))))))))))) else (some ((-1 : Int32), I)))
set_option maxHeartbeats 400000 in
set_option maxRecDepth 100000 in
theorem kX11_feed {E : xE} {B : Nat} {n : Nat} {K : Nat → Nat × Nat} {P : Nat → Nat → Nat} {I : Nat → Nat → Int32} {L : Nat → Nat → Int64}  {a1 : Int32} {a2 : Int32} {a3 : Int32} {a4 : Int32} {a5 : Int32} {q : Int32 × (Nat → Nat → Int32)} (d : Nat) (hd : 1 ≤ d) (G : GW K P)   (hm : mX11_feed I a1 a2 a3 a4 a5 = some q) : MX E B d 0 0 yX11_feed cX11_feed 6 (some .int) [.ref 1, .int a1, .int a2, .int a3, .int a4, .int a5] (n, K, P, I, L) (some (.int q.1), (n, K, P, q.2, L)) := by
  refine MX_of (lv := [(0, .ref 1), (1, .int a1), (2, .int a2), (3, .int a3), (4, .int a4), (5, .int a5)]) (by decide +kernel) (Nat.le_of_ble_eq_true rfl) rfl ?_
  obtain ⟨d, rfl⟩ : ∃ d0, d = d0 + 1 := ⟨d - 1, by omega⟩
  unfold mX11_feed at hm
  refine X_aload_n 0 dX11_feed_0 rfl rfl rfl ?_
  refine X_getI fl_X11_84 (g_K1 G) rfl dX11_feed_1 ?_
  refine X_sipush (v := (380 : Int32)) dX11_feed_4 (by decide) ?_
  refine X_icmp_le (tgt := 12) dX11_feed_7 (by decide) (fun c1 => ?_) (fun c1 => ?_)
  · replace hm := ip c1 hm
    refine X_aload_n 0 dX11_feed_12 rfl rfl rfl ?_
    refine X_iload_n 1 dX11_feed_13 rfl rfl ?_
    obtain ⟨q2, e3, hm⟩ := ob hm
    refine X_cV0 (ci := 10) (kX11_append d (by omega) G e3) ml_X11_91 mi_X11_append rfl cf_10 (g_K1 G) rfl rfl (Nat.le_refl _) ⟨Nat.le_refl _, Nat.le_refl _⟩ (Nat.le_of_ble_eq_true rfl) dX11_feed_14 ?_
    refine X_aload_n 0 dX11_feed_17 rfl rfl rfl ?_
    refine X_iload_n 2 dX11_feed_18 rfl rfl ?_
    obtain ⟨q4, e5, hm⟩ := ob hm
    refine X_cV0 (ci := 10) (kX11_append d (by omega) G e5) ml_X11_91 mi_X11_append rfl cf_10 (g_K1 G) rfl rfl (Nat.le_refl _) ⟨Nat.le_refl _, Nat.le_refl _⟩ (Nat.le_of_ble_eq_true rfl) dX11_feed_19 ?_
    refine X_aload_n 0 dX11_feed_22 rfl rfl rfl ?_
    refine X_iload_n 3 dX11_feed_23 rfl rfl ?_
    obtain ⟨q6, e7, hm⟩ := ob hm
    refine X_cV0 (ci := 10) (kX11_append d (by omega) G e7) ml_X11_91 mi_X11_append rfl cf_10 (g_K1 G) rfl rfl (Nat.le_refl _) ⟨Nat.le_refl _, Nat.le_refl _⟩ (Nat.le_of_ble_eq_true rfl) dX11_feed_24 ?_
    refine X_aload_n 0 dX11_feed_27 rfl rfl rfl ?_
    refine X_iload 4 dX11_feed_28 rfl ?_
    obtain ⟨q8, e9, hm⟩ := ob hm
    refine X_cV0 (ci := 10) (kX11_append d (by omega) G e9) ml_X11_91 mi_X11_append rfl cf_10 (g_K1 G) rfl rfl (Nat.le_refl _) ⟨Nat.le_refl _, Nat.le_refl _⟩ (Nat.le_of_ble_eq_true rfl) dX11_feed_30 ?_
    refine X_aload_n 0 dX11_feed_33 rfl rfl rfl ?_
    refine X_iload 5 dX11_feed_34 rfl ?_
    obtain ⟨q10, e11, hm⟩ := ob hm
    refine X_cV0 (ci := 10) (kX11_append d (by omega) G e11) ml_X11_91 mi_X11_append rfl cf_10 (g_K1 G) rfl rfl (Nat.le_refl _) ⟨Nat.le_refl _, Nat.le_refl _⟩ (Nat.le_of_ble_eq_true rfl) dX11_feed_36 ?_
    refine X_aload_n 0 dX11_feed_39 rfl rfl rfl ?_
    refine X_getI fl_X11_84 (g_K1 G) rfl dX11_feed_40 ?_
    replace hm := Option.some.inj hm
    subst hm
    exact X_iret dX11_feed_43 rfl
  · replace hm := iq c1 hm
    refine X_iconst (v := (-1 : Int32)) dX11_feed_10 (by decide) ?_
    replace hm := Option.some.inj hm
    subst hm
    exact X_iret dX11_feed_11 rfl
def mX11_end  (I : Nat → Nat → Int32) (a1 : Int32) : Option (Int32 × (Nat → Nat → Int32)) := (if a1 < 0 then (some ((-1 : Int32), I)) else (if a1 ≤ (I 1 1) then (some (a1, (xu I 1 1 a1))) else (some ((-1 : Int32), I))))
set_option maxHeartbeats 400000 in
set_option maxRecDepth 100000 in
theorem kX11_end {E : xE} {B : Nat} {n : Nat} {K : Nat → Nat × Nat} {P : Nat → Nat → Nat} {I : Nat → Nat → Int32} {L : Nat → Nat → Int64}  {a1 : Int32} {q : Int32 × (Nat → Nat → Int32)} (d : Nat) (hd : 0 ≤ d) (G : GW K P)   (hm : mX11_end I a1 = some q) : MX E B d 0 0 yX11_end cX11_end 2 (some .int) [.ref 1, .int a1] (n, K, P, I, L) (some (.int q.1), (n, K, P, q.2, L)) := by
  refine MX_of (lv := [(0, .ref 1), (1, .int a1)]) (by decide +kernel) (Nat.le_of_ble_eq_true rfl) rfl ?_
  unfold mX11_end at hm
  refine X_iload_n 1 dX11_end_0 rfl rfl ?_
  refine X_if_lt (tgt := 12) dX11_end_1 (by decide) (fun c1 => ?_) (fun c1 => ?_)
  · replace hm := ip c1 hm
    refine X_iconst (v := (-1 : Int32)) dX11_end_12 (by decide) ?_
    replace hm := Option.some.inj hm
    subst hm
    exact X_iret dX11_end_13 rfl
  · replace hm := iq c1 hm
    refine X_iload_n 1 dX11_end_4 rfl rfl ?_
    refine X_aload_n 0 dX11_end_5 rfl rfl rfl ?_
    refine X_getI fl_X11_84 (g_K1 G) rfl dX11_end_6 ?_
    refine X_icmp_le (tgt := 14) dX11_end_9 (by decide) (fun c2 => ?_) (fun c2 => ?_)
    · replace hm := ip c2 hm
      refine X_aload_n 0 dX11_end_14 rfl rfl rfl ?_
      refine X_iload_n 1 dX11_end_15 rfl rfl ?_
      refine X_putI fl_X11_84 (g_K1 G) rfl rfl dX11_end_16 ?_
      refine X_iload_n 1 dX11_end_19 rfl rfl ?_
      replace hm := Option.some.inj hm
      subst hm
      exact X_iret dX11_end_20 rfl
    · replace hm := iq c2 hm
      refine X_iconst (v := (-1 : Int32)) dX11_end_12 (by decide) ?_
      replace hm := Option.some.inj hm
      subst hm
      exact X_iret dX11_end_13 rfl
def mX11_takeTape  (I : Nat → Nat → Int32) : Option ((Nat → Nat → Int32)) := (Option.bind (mX9_split I 2 400 (I 1 1)) (fun q1 => (some (xu q1 1 1 (0 : Int32)))))
set_option maxHeartbeats 400000 in
set_option maxRecDepth 100000 in
theorem kX11_takeTape {E : xE} {B : Nat} {n : Nat} {K : Nat → Nat × Nat} {P : Nat → Nat → Nat} {I : Nat → Nat → Int32} {L : Nat → Nat → Int64}   {q : (Nat → Nat → Int32)} (d : Nat) (hd : 9 ≤ d) (G : GW K P)   (hm : mX11_takeTape I = some q) : MX E B d 0 0 yX11_takeTape cX11_takeTape 1 (none : Option Jvm.ClassFile.FieldType) [.ref 1] (n, K, P, I, L) (none, (n, K, P, q, L)) := by
  refine MX_of (lv := [(0, .ref 1)]) (by decide +kernel) (Nat.le_of_ble_eq_true rfl) rfl ?_
  obtain ⟨d, rfl⟩ : ∃ d0, d = d0 + 1 := ⟨d - 1, by omega⟩
  unfold mX11_takeTape at hm
  refine X_aload_n 0 dX11_takeTape_0 rfl rfl rfl ?_
  refine X_getPe fl_X11_16 (g_K1 G) rfl (g_P1_2 G) dX11_takeTape_1 ?_
  refine X_aload_n 0 dX11_takeTape_4 rfl rfl rfl ?_
  refine X_getPe fl_X11_9 (g_K1 G) rfl (g_P1_0 G) dX11_takeTape_5 ?_
  refine X_aload_n 0 dX11_takeTape_8 rfl rfl rfl ?_
  refine X_getI fl_X11_84 (g_K1 G) rfl dX11_takeTape_9 ?_
  obtain ⟨q1, e2, hm⟩ := ob hm
  refine X_cV0 (ci := 8) (kX9_split d (by omega) G (g_K2 G) e2) ml_X11_129 mi_X9_split rfl cf_8 (g_K3 G) rfl rfl (Nat.le_refl _) ⟨Nat.le_refl _, Nat.le_refl _⟩ (Nat.le_of_ble_eq_true rfl) dX11_takeTape_12 ?_
  refine X_aload_n 0 dX11_takeTape_15 rfl rfl rfl ?_
  refine X_iconst (v := (0 : Int32)) dX11_takeTape_16 (by decide) ?_
  refine X_putI fl_X11_84 (g_K1 G) rfl rfl dX11_takeTape_17 ?_
  replace hm := Option.some.inj hm
  subst hm
  exact X_vret dX11_takeTape_20 rfl
def mX11_force  (I : Nat → Nat → Int32) (a1 : Int32) : Option (Int32 × (Nat → Nat → Int32)) := (if a1 < (-1 : Int32) then (some ((-2 : Int32), I)) else (if a1 < (I 1 5) then (some ((I 12 9), (xu I 12 9 a1))) else (some ((-2 : Int32), I))))
set_option maxHeartbeats 400000 in
set_option maxRecDepth 100000 in
theorem kX11_force {E : xE} {B : Nat} {n : Nat} {K : Nat → Nat × Nat} {P : Nat → Nat → Nat} {I : Nat → Nat → Int32} {L : Nat → Nat → Int64}  {a1 : Int32} {q : Int32 × (Nat → Nat → Int32)} (d : Nat) (hd : 0 ≤ d) (G : GW K P)   (hm : mX11_force I a1 = some q) : MX E B d 0 0 yX11_force cX11_force 3 (some .int) [.ref 1, .int a1] (n, K, P, I, L) (some (.int q.1), (n, K, P, q.2, L)) := by
  refine MX_of (lv := [(0, .ref 1), (1, .int a1)]) (by decide +kernel) (Nat.le_of_ble_eq_true rfl) rfl ?_
  unfold mX11_force at hm
  refine X_iload_n 1 dX11_force_0 rfl rfl ?_
  refine X_iconst (v := (-1 : Int32)) dX11_force_1 (by decide) ?_
  refine X_icmp_lt (tgt := 13) dX11_force_2 (by decide) (fun c1 => ?_) (fun c1 => ?_)
  · replace hm := ip c1 hm
    refine X_bipush (v := (-2 : Int32)) dX11_force_13 (by decide) ?_
    replace hm := Option.some.inj hm
    subst hm
    exact X_iret dX11_force_15 rfl
  · replace hm := iq c1 hm
    refine X_iload_n 1 dX11_force_5 rfl rfl ?_
    refine X_aload_n 0 dX11_force_6 rfl rfl rfl ?_
    refine X_getI fl_X11_88 (g_K1 G) rfl dX11_force_7 ?_
    refine X_icmp_lt (tgt := 16) dX11_force_10 (by decide) (fun c2 => ?_) (fun c2 => ?_)
    · replace hm := ip c2 hm
      refine X_aload_n 0 dX11_force_16 rfl rfl rfl ?_
      refine X_getPe fl_X11_38 (g_K1 G) rfl (g_P1_6 G) dX11_force_17 ?_
      refine X_getI fl_X11_133 (g_K12 G) rfl dX11_force_20 ?_
      refine X_istore_n (lv' := [(2, .int (I 12 9)), (0, .ref 1), (1, .int a1)]) dX11_force_23 rfl (by decide) rfl ?_
      refine X_aload_n 1 dX11_force_24 rfl rfl rfl ?_
      refine X_getPe fl_X11_38 (g_K1 G) rfl (g_P1_6 G) dX11_force_25 ?_
      refine X_iload_n 2 dX11_force_28 rfl rfl ?_
      refine X_putI fl_X11_133 (g_K12 G) rfl rfl dX11_force_29 ?_
      refine X_iload_n 0 dX11_force_32 rfl rfl ?_
      replace hm := Option.some.inj hm
      subst hm
      exact X_iret dX11_force_33 rfl
    · replace hm := iq c2 hm
      refine X_bipush (v := (-2 : Int32)) dX11_force_13 (by decide) ?_
      replace hm := Option.some.inj hm
      subst hm
      exact X_iret dX11_force_15 rfl
def mX11_ruleOf (P : Nat → Nat → Nat) (I : Nat → Nat → Int32) (a1 : Int32) : Option (Nat) := (if a1 < 0 then (some 0) else (if (I 1 5) ≤ a1 then (some 0) else (if inb a1 6 = true then (some (P 11 (ix a1))) else none)))
set_option maxHeartbeats 400000 in
set_option maxRecDepth 100000 in
theorem kX11_ruleOf {E : xE} {B : Nat} {n : Nat} {K : Nat → Nat × Nat} {P : Nat → Nat → Nat} {I : Nat → Nat → Int32} {L : Nat → Nat → Int64}  {a1 : Int32} {q : Nat} (d : Nat) (hd : 0 ≤ d) (G : GW K P)   (hm : mX11_ruleOf P I a1 = some q) : MX E B d 0 0 yX11_ruleOf cX11_ruleOf 2 (some (.object "LatestCoat$Rule")) [.ref 1, .int a1] (n, K, P, I, L) (some (.ref q), (n, K, P, I, L)) := by
  refine MX_of (lv := [(0, .ref 1), (1, .int a1)]) (by decide +kernel) (Nat.le_of_ble_eq_true rfl) rfl ?_
  unfold mX11_ruleOf at hm
  refine X_iload_n 1 dX11_ruleOf_0 rfl rfl ?_
  refine X_if_lt (tgt := 21) dX11_ruleOf_1 (by decide) (fun c1 => ?_) (fun c1 => ?_)
  · replace hm := ip c1 hm
    refine X_null dX11_ruleOf_21 ?_
    replace hm := Option.some.inj hm
    subst hm
    exact X_aret dX11_ruleOf_22 rfl (Or.inl ⟨_, rfl⟩) rfl
  · replace hm := iq c1 hm
    refine X_iload_n 1 dX11_ruleOf_4 rfl rfl ?_
    refine X_aload_n 0 dX11_ruleOf_5 rfl rfl rfl ?_
    refine X_getI fl_X11_88 (g_K1 G) rfl dX11_ruleOf_6 ?_
    refine X_icmp_ge (tgt := 21) dX11_ruleOf_9 (by decide) (fun c2 => ?_) (fun c2 => ?_)
    · replace hm := ip c2 hm
      refine X_null dX11_ruleOf_21 ?_
      replace hm := Option.some.inj hm
      subst hm
      exact X_aret dX11_ruleOf_22 rfl (Or.inl ⟨_, rfl⟩) rfl
    · replace hm := iq c2 hm
      refine X_aload_n 0 dX11_ruleOf_12 rfl rfl rfl ?_
      refine X_getPe fl_X11_31 (g_K1 G) rfl (g_P1_4 G) dX11_ruleOf_13 ?_
      refine X_iload_n 1 dX11_ruleOf_16 rfl rfl ?_
      obtain ⟨g3, hm⟩ := og hm
      refine X_aaldJ (g_K11 G) (by decide) rfl g3 rfl dX11_ruleOf_17 ?_
      refine X_goto (tgt := 22) dX11_ruleOf_18 (by decide) ?_
      replace hm := Option.some.inj hm
      subst hm
      exact X_aret dX11_ruleOf_22 rfl (Or.inl ⟨_, rfl⟩) rfl
theorem rf_ruleOf {K : Nat → Nat × Nat} {P : Nat → Nat → Nat} {I : Nat → Nat → Int32} {a1 : Int32} {q : Nat} (G : GW K P) (e : mX11_ruleOf P I a1 = some q) : q = 0 ∨ K q = (2, 0) := by
  unfold mX11_ruleOf at e
  split at e
  · cases e; exact Or.inl rfl
  · split at e
    · cases e; exact Or.inl rfl
    · obtain ⟨g, e⟩ := og e
      cases e
      exact g_rule G (inb_lt g)
def mX11_isCell (P : Nat → Nat → Nat) (I : Nat → Nat → Int32) (a1 : Int32) : Option (Int32) := (if a1 < 0 then (some (0 : Int32)) else (if (I (P 12 0) 6) ≤ a1 then (some (0 : Int32)) else (some (1 : Int32))))
set_option maxHeartbeats 400000 in
set_option maxRecDepth 100000 in
theorem kX11_isCell {E : xE} {B : Nat} {n : Nat} {K : Nat → Nat × Nat} {P : Nat → Nat → Nat} {I : Nat → Nat → Int32} {L : Nat → Nat → Int64}  {a1 : Int32} {q : Int32} (d : Nat) (hd : 0 ≤ d) (G : GW K P)   (hm : mX11_isCell P I a1 = some q) : MX E B d 0 0 yX11_isCell cX11_isCell 2 (some .boolean) [.ref 1, .int a1] (n, K, P, I, L) (some (.int q), (n, K, P, I, L)) := by
  refine MX_of (lv := [(0, .ref 1), (1, .int a1)]) (by decide +kernel) (Nat.le_of_ble_eq_true rfl) rfl ?_
  unfold mX11_isCell at hm
  refine X_iload_n 1 dX11_isCell_0 rfl rfl ?_
  refine X_if_lt (tgt := 22) dX11_isCell_1 (by decide) (fun c1 => ?_) (fun c1 => ?_)
  · replace hm := ip c1 hm
    refine X_iconst (v := (0 : Int32)) dX11_isCell_22 (by decide) ?_
    replace hm := Option.some.inj hm
    subst hm
    exact X_zret (v := (0 : Int32)) dX11_isCell_23 rfl (x_nz (Or.inl rfl))
  · replace hm := iq c1 hm
    refine X_iload_n 1 dX11_isCell_4 rfl rfl ?_
    refine X_aload_n 0 dX11_isCell_5 rfl rfl rfl ?_
    refine X_getPe fl_X11_38 (g_K1 G) rfl (g_P1_6 G) dX11_isCell_6 ?_
    refine X_getP fl_X11_116 (g_K12 G) rfl dX11_isCell_9 ?_
    refine X_getI fl_X11_119 (gl9_st G (g_K12 G)) rfl dX11_isCell_12 ?_
    refine X_icmp_ge (tgt := 22) dX11_isCell_15 (by decide) (fun c2 => ?_) (fun c2 => ?_)
    · replace hm := ip c2 hm
      refine X_iconst (v := (0 : Int32)) dX11_isCell_22 (by decide) ?_
      replace hm := Option.some.inj hm
      subst hm
      exact X_zret (v := (0 : Int32)) dX11_isCell_23 rfl (x_nz (Or.inl rfl))
    · replace hm := iq c2 hm
      refine X_iconst (v := (1 : Int32)) dX11_isCell_18 (by decide) ?_
      refine X_goto (tgt := 23) dX11_isCell_19 (by decide) ?_
      replace hm := Option.some.inj hm
      subst hm
      exact X_zret (v := (1 : Int32)) dX11_isCell_23 rfl (x_nz (Or.inr rfl))
def mX11_isThing (P : Nat → Nat → Nat) (I : Nat → Nat → Int32) (a1 : Int32) : Option (Int32) := (if a1 < 0 then (some (0 : Int32)) else (if (I (P 12 0) 5) ≤ a1 then (some (0 : Int32)) else (some (1 : Int32))))
set_option maxHeartbeats 400000 in
set_option maxRecDepth 100000 in
theorem kX11_isThing {E : xE} {B : Nat} {n : Nat} {K : Nat → Nat × Nat} {P : Nat → Nat → Nat} {I : Nat → Nat → Int32} {L : Nat → Nat → Int64}  {a1 : Int32} {q : Int32} (d : Nat) (hd : 0 ≤ d) (G : GW K P)   (hm : mX11_isThing P I a1 = some q) : MX E B d 0 0 yX11_isThing cX11_isThing 2 (some .boolean) [.ref 1, .int a1] (n, K, P, I, L) (some (.int q), (n, K, P, I, L)) := by
  refine MX_of (lv := [(0, .ref 1), (1, .int a1)]) (by decide +kernel) (Nat.le_of_ble_eq_true rfl) rfl ?_
  unfold mX11_isThing at hm
  refine X_iload_n 1 dX11_isThing_0 rfl rfl ?_
  refine X_if_lt (tgt := 22) dX11_isThing_1 (by decide) (fun c1 => ?_) (fun c1 => ?_)
  · replace hm := ip c1 hm
    refine X_iconst (v := (0 : Int32)) dX11_isThing_22 (by decide) ?_
    replace hm := Option.some.inj hm
    subst hm
    exact X_zret (v := (0 : Int32)) dX11_isThing_23 rfl (x_nz (Or.inl rfl))
  · replace hm := iq c1 hm
    refine X_iload_n 1 dX11_isThing_4 rfl rfl ?_
    refine X_aload_n 0 dX11_isThing_5 rfl rfl rfl ?_
    refine X_getPe fl_X11_38 (g_K1 G) rfl (g_P1_6 G) dX11_isThing_6 ?_
    refine X_getP fl_X11_116 (g_K12 G) rfl dX11_isThing_9 ?_
    refine X_getI fl_X11_136 (gl9_st G (g_K12 G)) rfl dX11_isThing_12 ?_
    refine X_icmp_ge (tgt := 22) dX11_isThing_15 (by decide) (fun c2 => ?_) (fun c2 => ?_)
    · replace hm := ip c2 hm
      refine X_iconst (v := (0 : Int32)) dX11_isThing_22 (by decide) ?_
      replace hm := Option.some.inj hm
      subst hm
      exact X_zret (v := (0 : Int32)) dX11_isThing_23 rfl (x_nz (Or.inl rfl))
    · replace hm := iq c2 hm
      refine X_iconst (v := (1 : Int32)) dX11_isThing_18 (by decide) ?_
      refine X_goto (tgt := 23) dX11_isThing_19 (by decide) ?_
      replace hm := Option.some.inj hm
      subst hm
      exact X_zret (v := (1 : Int32)) dX11_isThing_23 rfl (x_nz (Or.inr rfl))
def mX11_isPainter (P : Nat → Nat → Nat) (I : Nat → Nat → Int32) (a1 : Int32) : Option (Int32) := (if a1 < 0 then (some (0 : Int32)) else (if (I (P 12 0) 7) ≤ a1 then (some (0 : Int32)) else (some (1 : Int32))))
set_option maxHeartbeats 400000 in
set_option maxRecDepth 100000 in
theorem kX11_isPainter {E : xE} {B : Nat} {n : Nat} {K : Nat → Nat × Nat} {P : Nat → Nat → Nat} {I : Nat → Nat → Int32} {L : Nat → Nat → Int64}  {a1 : Int32} {q : Int32} (d : Nat) (hd : 0 ≤ d) (G : GW K P)   (hm : mX11_isPainter P I a1 = some q) : MX E B d 0 0 yX11_isPainter cX11_isPainter 2 (some .boolean) [.ref 1, .int a1] (n, K, P, I, L) (some (.int q), (n, K, P, I, L)) := by
  refine MX_of (lv := [(0, .ref 1), (1, .int a1)]) (by decide +kernel) (Nat.le_of_ble_eq_true rfl) rfl ?_
  unfold mX11_isPainter at hm
  refine X_iload_n 1 dX11_isPainter_0 rfl rfl ?_
  refine X_if_lt (tgt := 22) dX11_isPainter_1 (by decide) (fun c1 => ?_) (fun c1 => ?_)
  · replace hm := ip c1 hm
    refine X_iconst (v := (0 : Int32)) dX11_isPainter_22 (by decide) ?_
    replace hm := Option.some.inj hm
    subst hm
    exact X_zret (v := (0 : Int32)) dX11_isPainter_23 rfl (x_nz (Or.inl rfl))
  · replace hm := iq c1 hm
    refine X_iload_n 1 dX11_isPainter_4 rfl rfl ?_
    refine X_aload_n 0 dX11_isPainter_5 rfl rfl rfl ?_
    refine X_getPe fl_X11_38 (g_K1 G) rfl (g_P1_6 G) dX11_isPainter_6 ?_
    refine X_getP fl_X11_116 (g_K12 G) rfl dX11_isPainter_9 ?_
    refine X_getI fl_X11_139 (gl9_st G (g_K12 G)) rfl dX11_isPainter_12 ?_
    refine X_icmp_ge (tgt := 22) dX11_isPainter_15 (by decide) (fun c2 => ?_) (fun c2 => ?_)
    · replace hm := ip c2 hm
      refine X_iconst (v := (0 : Int32)) dX11_isPainter_22 (by decide) ?_
      replace hm := Option.some.inj hm
      subst hm
      exact X_zret (v := (0 : Int32)) dX11_isPainter_23 rfl (x_nz (Or.inl rfl))
    · replace hm := iq c2 hm
      refine X_iconst (v := (1 : Int32)) dX11_isPainter_18 (by decide) ?_
      refine X_goto (tgt := 23) dX11_isPainter_19 (by decide) ?_
      replace hm := Option.some.inj hm
      subst hm
      exact X_zret (v := (1 : Int32)) dX11_isPainter_23 rfl (x_nz (Or.inr rfl))
def mX11_isWithin  (a0 : Int32) (a1 : Int32) (a2 : Int32) : Option (Int32) := (if a0 < a1 then (some (0 : Int32)) else (if a2 < a0 then (some (0 : Int32)) else (some (1 : Int32))))
set_option maxHeartbeats 400000 in
set_option maxRecDepth 100000 in
theorem kX11_isWithin {E : xE} {B : Nat} {n : Nat} {K : Nat → Nat × Nat} {P : Nat → Nat → Nat} {I : Nat → Nat → Int32} {L : Nat → Nat → Int64}  {a0 : Int32} {a1 : Int32} {a2 : Int32} {q : Int32} (d : Nat) (hd : 0 ≤ d) (G : GW K P)   (hm : mX11_isWithin a0 a1 a2 = some q) : MX E B d 0 0 yX11_isWithin cX11_isWithin 3 (some .boolean) [.int a0, .int a1, .int a2] (n, K, P, I, L) (some (.int q), (n, K, P, I, L)) := by
  refine MX_of (lv := [(0, .int a0), (1, .int a1), (2, .int a2)]) (by decide +kernel) (Nat.le_of_ble_eq_true rfl) rfl ?_
  unfold mX11_isWithin at hm
  refine X_iload_n 0 dX11_isWithin_0 rfl rfl ?_
  refine X_iload_n 1 dX11_isWithin_1 rfl rfl ?_
  refine X_icmp_lt (tgt := 14) dX11_isWithin_2 (by decide) (fun c1 => ?_) (fun c1 => ?_)
  · replace hm := ip c1 hm
    refine X_iconst (v := (0 : Int32)) dX11_isWithin_14 (by decide) ?_
    replace hm := Option.some.inj hm
    subst hm
    exact X_zret (v := (0 : Int32)) dX11_isWithin_15 rfl (x_nz (Or.inl rfl))
  · replace hm := iq c1 hm
    refine X_iload_n 0 dX11_isWithin_5 rfl rfl ?_
    refine X_iload_n 2 dX11_isWithin_6 rfl rfl ?_
    refine X_icmp_gt (tgt := 14) dX11_isWithin_7 (by decide) (fun c2 => ?_) (fun c2 => ?_)
    · replace hm := ip c2 hm
      refine X_iconst (v := (0 : Int32)) dX11_isWithin_14 (by decide) ?_
      replace hm := Option.some.inj hm
      subst hm
      exact X_zret (v := (0 : Int32)) dX11_isWithin_15 rfl (x_nz (Or.inl rfl))
    · replace hm := iq c2 hm
      refine X_iconst (v := (1 : Int32)) dX11_isWithin_10 (by decide) ?_
      refine X_goto (tgt := 15) dX11_isWithin_11 (by decide) ?_
      replace hm := Option.some.inj hm
      subst hm
      exact X_zret (v := (1 : Int32)) dX11_isWithin_15 rfl (x_nz (Or.inr rfl))
def mX11_isBare (I : Nat → Nat → Int32) (a1 : Int32) : Option (Int32) := (Option.bind (mX6_isBare I 24 a1) (fun q1 => (if q1 = 0 ∨ q1 = 1 then (some q1) else none)))
set_option maxHeartbeats 400000 in
set_option maxRecDepth 100000 in
theorem kX11_isBare {E : xE} {B : Nat} {n : Nat} {K : Nat → Nat × Nat} {P : Nat → Nat → Nat} {I : Nat → Nat → Int32} {L : Nat → Nat → Int64}  {a1 : Int32} {q : Int32} (d : Nat) (hd : 1 ≤ d) (G : GW K P)   (hm : mX11_isBare I a1 = some q) : MX E B d 0 0 yX11_isBare cX11_isBare 2 (some .boolean) [.ref 1, .int a1] (n, K, P, I, L) (some (.int q), (n, K, P, I, L)) := by
  refine MX_of (lv := [(0, .ref 1), (1, .int a1)]) (by decide +kernel) (Nat.le_of_ble_eq_true rfl) rfl ?_
  obtain ⟨d, rfl⟩ : ∃ d0, d = d0 + 1 := ⟨d - 1, by omega⟩
  unfold mX11_isBare at hm
  refine X_aload_n 0 dX11_isBare_0 rfl rfl rfl ?_
  refine X_getPe fl_X11_38 (g_K1 G) rfl (g_P1_6 G) dX11_isBare_1 ?_
  refine X_getPe fl_X11_142 (g_K12 G) rfl (g_P12_1 G) dX11_isBare_4 ?_
  refine X_iload_n 1 dX11_isBare_7 rfl rfl ?_
  obtain ⟨q1, e2, hm⟩ := ob hm
  refine X_cV1 (ci := 5) (kX6_isBare d (by omega) G (g_K24 G) e2) ml_X11_145 mi_X6_isBare rfl cf_5 (g_K24 G) rfl rfl (Nat.le_refl _) ⟨Nat.le_refl _, Nat.le_refl _⟩ (Nat.le_of_ble_eq_true rfl) dX11_isBare_8 ?_
  obtain ⟨g3, hm⟩ := og hm
  replace hm := Option.some.inj hm
  subst hm
  exact X_zret dX11_isBare_11 rfl (x_nz g3)
def mX11_cell (P : Nat → Nat → Nat) (I : Nat → Nat → Int32) (L : Nat → Nat → Int64) (a1 : Int32) (a2 : Int32) : Option (Int32) := (Option.bind (mX11_isCell P I a1) (fun q1 => (if q1 = 0 then (some (-2 : Int32)) else (if inb a1 16 = true then (if a2 = (0 : Int32) then (if inb a1 16 = true then (some (I ((P 12 0) + 4) (ix a1))) else none) else (if a2 = (1 : Int32) then (Option.bind (mX0_height (L 25 (ix a1))) (fun q8 => (some q8))) else (if a2 = (2 : Int32) then (Option.bind (mX7_ownerOf I (P 12 0) (L 25 (ix a1)) (I 24 2)) (fun q11 => (some q11))) else (if a2 = (3 : Int32) then (Option.bind (mX0_topPainter (L 25 (ix a1))) (fun q14 => (some q14))) else (if a2 = (4 : Int32) then (Option.bind (mX7_isWet I (P 12 0) (L 25 (ix a1)) (I 24 2)) (fun q17 => (if q17 = 0 then (some (0 : Int32)) else (some (1 : Int32))))) else (some (-2 : Int32))))))) else none))))
set_option maxHeartbeats 400000 in
set_option maxRecDepth 100000 in
theorem kX11_cell {E : xE} {B : Nat} {n : Nat} {K : Nat → Nat × Nat} {P : Nat → Nat → Nat} {I : Nat → Nat → Int32} {L : Nat → Nat → Int64}  {a1 : Int32} {a2 : Int32} {q : Int32} (d : Nat) (hd : 3 ≤ d) (G : GW K P)   (hm : mX11_cell P I L a1 a2 = some q) : MX E B d 0 0 yX11_cell cX11_cell 5 (some .int) [.ref 1, .int a1, .int a2] (n, K, P, I, L) (some (.int q), (n, K, P, I, L)) := by
  refine MX_of (lv := [(0, .ref 1), (1, .int a1), (2, .int a2)]) (by decide +kernel) (Nat.le_of_ble_eq_true rfl) rfl ?_
  obtain ⟨d, rfl⟩ : ∃ d0, d = d0 + 1 := ⟨d - 1, by omega⟩
  unfold mX11_cell at hm
  refine X_aload_n 0 dX11_cell_0 rfl rfl rfl ?_
  refine X_iload_n 1 dX11_cell_1 rfl rfl ?_
  obtain ⟨q1, e2, hm⟩ := ob hm
  refine X_cV1 (ci := 10) (kX11_isCell d (by omega) G e2) ml_X11_149 mi_X11_isCell rfl cf_10 (g_K1 G) rfl rfl (Nat.le_refl _) ⟨Nat.le_refl _, Nat.le_refl _⟩ (Nat.le_of_ble_eq_true rfl) dX11_cell_2 ?_
  refine X_if_ne (tgt := 11) dX11_cell_5 (by decide) (fun c3 => ?_) (fun c3 => ?_)
  · replace hm := iq c3 hm
    refine X_aload_n 0 dX11_cell_11 rfl rfl rfl ?_
    refine X_getPe fl_X11_38 (g_K1 G) rfl (g_P1_6 G) dX11_cell_12 ?_
    refine X_getPe fl_X11_142 (g_K12 G) rfl (g_P12_1 G) dX11_cell_15 ?_
    refine X_getPe fl_X11_152 (g_K24 G) rfl (g_P24_0 G) dX11_cell_18 ?_
    refine X_iload_n 1 dX11_cell_21 rfl rfl ?_
    obtain ⟨g4, hm⟩ := og hm
    refine X_laldJ (g_K25 G) g4 rfl dX11_cell_22 ?_
    refine X_lstore_n (lv' := [(3, .long (L 25 (ix a1))), (0, .ref 1), (1, .int a1), (2, .int a2)]) dX11_cell_23 rfl (by decide) rfl ?_
    refine X_iload_n 3 dX11_cell_24 rfl rfl ?_
    rcases Decidable.em (a2 = (0 : Int32)) with c5 | c5
    · replace hm := ip c5 hm
      refine X_swK (off := 35) (tgt := 60) c5 dX11_cell_25 (by decide) (by decide) (by decide) (by decide) ?_
      refine X_aload_n 1 dX11_cell_60 rfl rfl rfl ?_
      refine X_getPe fl_X11_38 (g_K1 G) rfl (g_P1_6 G) dX11_cell_61 ?_
      refine X_getP fl_X11_116 (g_K12 G) rfl dX11_cell_64 ?_
      refine X_getPe fl_X11_156 (gl9_st G (g_K12 G)) rfl (gl6_P12 G (gl9_st G (g_K12 G))) dX11_cell_67 ?_
      refine X_iload_n 2 dX11_cell_70 rfl rfl ?_
      obtain ⟨g6, hm⟩ := og hm
      refine X_ialdJ (gl6_K4 G (gl9_st G (g_K12 G))) g6 rfl dX11_cell_71 ?_
      replace hm := Option.some.inj hm
      subst hm
      exact X_iret dX11_cell_72 rfl
    · replace hm := iq c5 hm
      rcases Decidable.em (a2 = (1 : Int32)) with c7 | c7
      · replace hm := ip c7 hm
        refine X_swK (off := 48) (tgt := 73) c7 dX11_cell_25 (by decide) (by decide) (by decide) (by decide) ?_
        refine X_lload_n 0 dX11_cell_73 rfl rfl ?_
        obtain ⟨q8, e9, hm⟩ := ob hm
        refine X_cS1 (kX0_height d (by omega) G e9) ml_X11_159 ms_X0_height rfl rfl (Nat.le_refl _) ⟨Nat.le_refl _, Nat.le_refl _⟩ (Nat.le_of_ble_eq_true rfl) dX11_cell_74 ?_
        replace hm := Option.some.inj hm
        subst hm
        exact X_iret dX11_cell_77 rfl
      · replace hm := iq c7 hm
        rcases Decidable.em (a2 = (2 : Int32)) with c10 | c10
        · replace hm := ip c10 hm
          refine X_swK (off := 53) (tgt := 78) c10 dX11_cell_25 (by decide) (by decide) (by decide) (by decide) ?_
          refine X_aload_n 1 dX11_cell_78 rfl rfl rfl ?_
          refine X_getPe fl_X11_38 (g_K1 G) rfl (g_P1_6 G) dX11_cell_79 ?_
          refine X_getP fl_X11_116 (g_K12 G) rfl dX11_cell_82 ?_
          refine X_lload_n 0 dX11_cell_85 rfl rfl ?_
          refine X_aload_n 1 dX11_cell_86 rfl rfl rfl ?_
          refine X_getPe fl_X11_38 (g_K1 G) rfl (g_P1_6 G) dX11_cell_87 ?_
          refine X_getPe fl_X11_142 (g_K12 G) rfl (g_P12_1 G) dX11_cell_90 ?_
          refine X_getI fl_X11_165 (g_K24 G) rfl dX11_cell_93 ?_
          obtain ⟨q11, e12, hm⟩ := ob hm
          refine X_cV1 (ci := 6) (kX7_ownerOf d (by omega) G (gl9_st G (g_K12 G)) e12) ml_X11_168 mi_X7_ownerOf rfl cf_6 (gl9_st G (g_K12 G)) rfl rfl (Nat.le_refl _) ⟨Nat.le_refl _, Nat.le_refl _⟩ (Nat.le_of_ble_eq_true rfl) dX11_cell_96 ?_
          replace hm := Option.some.inj hm
          subst hm
          exact X_iret dX11_cell_99 rfl
        · replace hm := iq c10 hm
          rcases Decidable.em (a2 = (3 : Int32)) with c13 | c13
          · replace hm := ip c13 hm
            refine X_swK (off := 75) (tgt := 100) c13 dX11_cell_25 (by decide) (by decide) (by decide) (by decide) ?_
            refine X_lload_n 0 dX11_cell_100 rfl rfl ?_
            obtain ⟨q14, e15, hm⟩ := ob hm
            refine X_cS1 (kX0_topPainter d (by omega) G e15) ml_X11_172 ms_X0_topPainter rfl rfl (Nat.le_refl _) ⟨Nat.le_refl _, Nat.le_refl _⟩ (Nat.le_of_ble_eq_true rfl) dX11_cell_101 ?_
            replace hm := Option.some.inj hm
            subst hm
            exact X_iret dX11_cell_104 rfl
          · replace hm := iq c13 hm
            rcases Decidable.em (a2 = (4 : Int32)) with c16 | c16
            · replace hm := ip c16 hm
              refine X_swK (off := 80) (tgt := 105) c16 dX11_cell_25 (by decide) (by decide) (by decide) (by decide) ?_
              refine X_aload_n 1 dX11_cell_105 rfl rfl rfl ?_
              refine X_getPe fl_X11_38 (g_K1 G) rfl (g_P1_6 G) dX11_cell_106 ?_
              refine X_getP fl_X11_116 (g_K12 G) rfl dX11_cell_109 ?_
              refine X_lload_n 0 dX11_cell_112 rfl rfl ?_
              refine X_aload_n 1 dX11_cell_113 rfl rfl rfl ?_
              refine X_getPe fl_X11_38 (g_K1 G) rfl (g_P1_6 G) dX11_cell_114 ?_
              refine X_getPe fl_X11_142 (g_K12 G) rfl (g_P12_1 G) dX11_cell_117 ?_
              refine X_getI fl_X11_165 (g_K24 G) rfl dX11_cell_120 ?_
              obtain ⟨q17, e18, hm⟩ := ob hm
              refine X_cV1 (ci := 6) (kX7_isWet d (by omega) G (gl9_st G (g_K12 G)) e18) ml_X11_175 mi_X7_isWet rfl cf_6 (gl9_st G (g_K12 G)) rfl rfl (Nat.le_refl _) ⟨Nat.le_refl _, Nat.le_refl _⟩ (Nat.le_of_ble_eq_true rfl) dX11_cell_123 ?_
              refine X_if_eq (tgt := 133) dX11_cell_126 (by decide) (fun c19 => ?_) (fun c19 => ?_)
              · replace hm := ip c19 hm
                refine X_iconst (v := (0 : Int32)) dX11_cell_133 (by decide) ?_
                replace hm := Option.some.inj hm
                subst hm
                exact X_iret dX11_cell_134 rfl
              · replace hm := iq c19 hm
                refine X_iconst (v := (1 : Int32)) dX11_cell_129 (by decide) ?_
                refine X_goto (tgt := 134) dX11_cell_130 (by decide) ?_
                replace hm := Option.some.inj hm
                subst hm
                exact X_iret dX11_cell_134 rfl
            · replace hm := iq c16 hm
              refine X_tableOut (tgt := 135) dX11_cell_25 (sw_out 5 (by decide) (fun i hi => by
                have hi2 : i = 0 ∨ i = 1 ∨ i = 2 ∨ i = 3 ∨ i = 4 := by omega
                rcases hi2 with rfl | rfl | rfl | rfl | rfl
                · exact c5
                · exact c7
                · exact c10
                · exact c13
                · exact c16)) (by decide) ?_
              refine X_bipush (v := (-2 : Int32)) dX11_cell_135 (by decide) ?_
              replace hm := Option.some.inj hm
              subst hm
              exact X_iret dX11_cell_137 rfl
  · replace hm := ip c3 hm
    refine X_bipush (v := (-2 : Int32)) dX11_cell_8 (by decide) ?_
    replace hm := Option.some.inj hm
    subst hm
    exact X_iret dX11_cell_10 rfl
def mX11_coat (P : Nat → Nat → Nat) (I : Nat → Nat → Int32) (L : Nat → Nat → Int64) (a1 : Int32) (a2 : Int32) (a3 : Int32) : Option (Int32) := (Option.bind (mX11_isCell P I a1) (fun q1 => (if q1 = 0 then (some (-2 : Int32)) else (if a2 < 0 then (some (-2 : Int32)) else (if inb a1 16 = true then (Option.bind (mX0_height (L 25 (ix a1))) (fun q6 => (if a2 < q6 then (if inb a1 16 = true then (Option.bind (mX0_without (L 25 (ix a1)) a2) (fun q10 => (Option.bind (mX0_topPainter q10) (fun q12 => (if a3 = (0 : Int32) then (some q12) else (if a3 = (1 : Int32) then (Option.bind (mX11_isPainter P I q12) (fun q16 => (if q16 = 0 then (some (-2 : Int32)) else (if inb q12 4 = true then (some (I ((P 12 0) + 5) (ix q12))) else none)))) else (if a3 = (2 : Int32) then (Option.bind (mX0_topHour q10) (fun q21 => (some q21))) else (some (-2 : Int32))))))))) else none) else (some (-2 : Int32))))) else none)))))
set_option maxHeartbeats 400000 in
set_option maxRecDepth 100000 in
theorem kX11_coat {E : xE} {B : Nat} {n : Nat} {K : Nat → Nat × Nat} {P : Nat → Nat → Nat} {I : Nat → Nat → Int32} {L : Nat → Nat → Int64}  {a1 : Int32} {a2 : Int32} {a3 : Int32} {q : Int32} (d : Nat) (hd : 1 ≤ d) (G : GW K P)   (hm : mX11_coat P I L a1 a2 a3 = some q) : MX E B d 0 0 yX11_coat cX11_coat 7 (some .int) [.ref 1, .int a1, .int a2, .int a3] (n, K, P, I, L) (some (.int q), (n, K, P, I, L)) := by
  refine MX_of (lv := [(0, .ref 1), (1, .int a1), (2, .int a2), (3, .int a3)]) (by decide +kernel) (Nat.le_of_ble_eq_true rfl) rfl ?_
  obtain ⟨d, rfl⟩ : ∃ d0, d = d0 + 1 := ⟨d - 1, by omega⟩
  unfold mX11_coat at hm
  refine X_aload_n 0 dX11_coat_0 rfl rfl rfl ?_
  refine X_iload_n 1 dX11_coat_1 rfl rfl ?_
  obtain ⟨q1, e2, hm⟩ := ob hm
  refine X_cV1 (ci := 10) (kX11_isCell d (by omega) G e2) ml_X11_149 mi_X11_isCell rfl cf_10 (g_K1 G) rfl rfl (Nat.le_refl _) ⟨Nat.le_refl _, Nat.le_refl _⟩ (Nat.le_of_ble_eq_true rfl) dX11_coat_2 ?_
  refine X_if_eq (tgt := 31) dX11_coat_5 (by decide) (fun c3 => ?_) (fun c3 => ?_)
  · replace hm := ip c3 hm
    refine X_bipush (v := (-2 : Int32)) dX11_coat_31 (by decide) ?_
    replace hm := Option.some.inj hm
    subst hm
    exact X_iret dX11_coat_33 rfl
  · replace hm := iq c3 hm
    refine X_iload_n 2 dX11_coat_8 rfl rfl ?_
    refine X_if_lt (tgt := 31) dX11_coat_9 (by decide) (fun c4 => ?_) (fun c4 => ?_)
    · replace hm := ip c4 hm
      refine X_bipush (v := (-2 : Int32)) dX11_coat_31 (by decide) ?_
      replace hm := Option.some.inj hm
      subst hm
      exact X_iret dX11_coat_33 rfl
    · replace hm := iq c4 hm
      refine X_iload_n 2 dX11_coat_12 rfl rfl ?_
      refine X_aload_n 0 dX11_coat_13 rfl rfl rfl ?_
      refine X_getPe fl_X11_38 (g_K1 G) rfl (g_P1_6 G) dX11_coat_14 ?_
      refine X_getPe fl_X11_142 (g_K12 G) rfl (g_P12_1 G) dX11_coat_17 ?_
      refine X_getPe fl_X11_152 (g_K24 G) rfl (g_P24_0 G) dX11_coat_20 ?_
      refine X_iload_n 1 dX11_coat_23 rfl rfl ?_
      obtain ⟨g5, hm⟩ := og hm
      refine X_laldJ (g_K25 G) g5 rfl dX11_coat_24 ?_
      obtain ⟨q6, e7, hm⟩ := ob hm
      refine X_cS1 (kX0_height d (by omega) G e7) ml_X11_159 ms_X0_height rfl rfl (Nat.le_refl _) ⟨Nat.le_refl _, Nat.le_refl _⟩ (Nat.le_of_ble_eq_true rfl) dX11_coat_25 ?_
      refine X_icmp_lt (tgt := 34) dX11_coat_28 (by decide) (fun c8 => ?_) (fun c8 => ?_)
      · replace hm := ip c8 hm
        refine X_aload_n 0 dX11_coat_34 rfl rfl rfl ?_
        refine X_getPe fl_X11_38 (g_K1 G) rfl (g_P1_6 G) dX11_coat_35 ?_
        refine X_getPe fl_X11_142 (g_K12 G) rfl (g_P12_1 G) dX11_coat_38 ?_
        refine X_getPe fl_X11_152 (g_K24 G) rfl (g_P24_0 G) dX11_coat_41 ?_
        refine X_iload_n 1 dX11_coat_44 rfl rfl ?_
        obtain ⟨g9, hm⟩ := og hm
        refine X_laldJ (g_K25 G) g9 rfl dX11_coat_45 ?_
        refine X_iload_n 2 dX11_coat_46 rfl rfl ?_
        obtain ⟨q10, e11, hm⟩ := ob hm
        refine X_cS1 (kX0_without d (by omega) G e11) ml_X11_179 ms_X0_without rfl rfl (Nat.le_refl _) ⟨Nat.le_refl _, Nat.le_refl _⟩ (Nat.le_of_ble_eq_true rfl) dX11_coat_47 ?_
        refine X_lstore (lv' := [(4, .long q10), (0, .ref 1), (1, .int a1), (2, .int a2), (3, .int a3)]) dX11_coat_50 (by decide) rfl ?_
        refine X_lload 0 dX11_coat_52 rfl ?_
        obtain ⟨q12, e13, hm⟩ := ob hm
        refine X_cS1 (kX0_topPainter d (by omega) G e13) ml_X11_172 ms_X0_topPainter rfl rfl (Nat.le_refl _) ⟨Nat.le_refl _, Nat.le_refl _⟩ (Nat.le_of_ble_eq_true rfl) dX11_coat_54 ?_
        refine X_istore (lv' := [(6, .int q12), (4, .long q10), (0, .ref 1), (1, .int a1), (2, .int a2), (3, .int a3)]) dX11_coat_57 (by decide) rfl ?_
        refine X_iload_n 5 dX11_coat_59 rfl rfl ?_
        rcases Decidable.em (a3 = (0 : Int32)) with c14 | c14
        · replace hm := ip c14 hm
          refine X_swK (off := 28) (tgt := 88) c14 dX11_coat_60 (by decide) (by decide) (by decide) (by decide) ?_
          refine X_iload 0 dX11_coat_88 rfl ?_
          replace hm := Option.some.inj hm
          subst hm
          exact X_iret dX11_coat_90 rfl
        · replace hm := iq c14 hm
          rcases Decidable.em (a3 = (1 : Int32)) with c15 | c15
          · replace hm := ip c15 hm
            refine X_swK (off := 31) (tgt := 91) c15 dX11_coat_60 (by decide) (by decide) (by decide) (by decide) ?_
            refine X_aload_n 2 dX11_coat_91 rfl rfl rfl ?_
            refine X_iload 0 dX11_coat_92 rfl ?_
            obtain ⟨q16, e17, hm⟩ := ob hm
            refine X_cV1 (ci := 10) (kX11_isPainter d (by omega) G e17) ml_X11_183 mi_X11_isPainter rfl cf_10 (g_K1 G) rfl rfl (Nat.le_refl _) ⟨Nat.le_refl _, Nat.le_refl _⟩ (Nat.le_of_ble_eq_true rfl) dX11_coat_94 ?_
            refine X_if_eq (tgt := 116) dX11_coat_97 (by decide) (fun c18 => ?_) (fun c18 => ?_)
            · replace hm := ip c18 hm
              refine X_bipush (v := (-2 : Int32)) dX11_coat_116 (by decide) ?_
              replace hm := Option.some.inj hm
              subst hm
              exact X_iret dX11_coat_118 rfl
            · replace hm := iq c18 hm
              refine X_aload_n 2 dX11_coat_100 rfl rfl rfl ?_
              refine X_getPe fl_X11_38 (g_K1 G) rfl (g_P1_6 G) dX11_coat_101 ?_
              refine X_getP fl_X11_116 (g_K12 G) rfl dX11_coat_104 ?_
              refine X_getPe fl_X11_186 (gl9_st G (g_K12 G)) rfl (gl6_P13 G (gl9_st G (g_K12 G))) dX11_coat_107 ?_
              refine X_iload 0 dX11_coat_110 rfl ?_
              obtain ⟨g19, hm⟩ := og hm
              refine X_ialdJ (gl6_K5 G (gl9_st G (g_K12 G))) g19 rfl dX11_coat_112 ?_
              refine X_goto (tgt := 118) dX11_coat_113 (by decide) ?_
              replace hm := Option.some.inj hm
              subst hm
              exact X_iret dX11_coat_118 rfl
          · replace hm := iq c15 hm
            rcases Decidable.em (a3 = (2 : Int32)) with c20 | c20
            · replace hm := ip c20 hm
              refine X_swK (off := 59) (tgt := 119) c20 dX11_coat_60 (by decide) (by decide) (by decide) (by decide) ?_
              refine X_lload 1 dX11_coat_119 rfl ?_
              obtain ⟨q21, e22, hm⟩ := ob hm
              refine X_cS1 (kX0_topHour d (by omega) G e22) ml_X11_189 ms_X0_topHour rfl rfl (Nat.le_refl _) ⟨Nat.le_refl _, Nat.le_refl _⟩ (Nat.le_of_ble_eq_true rfl) dX11_coat_121 ?_
              replace hm := Option.some.inj hm
              subst hm
              exact X_iret dX11_coat_124 rfl
            · replace hm := iq c20 hm
              refine X_tableOut (tgt := 125) dX11_coat_60 (sw_out 3 (by decide) (fun i hi => by
                have hi2 : i = 0 ∨ i = 1 ∨ i = 2 := by omega
                rcases hi2 with rfl | rfl | rfl
                · exact c14
                · exact c15
                · exact c20)) (by decide) ?_
              refine X_bipush (v := (-2 : Int32)) dX11_coat_125 (by decide) ?_
              replace hm := Option.some.inj hm
              subst hm
              exact X_iret dX11_coat_127 rfl
      · replace hm := iq c8 hm
        refine X_bipush (v := (-2 : Int32)) dX11_coat_31 (by decide) ?_
        replace hm := Option.some.inj hm
        subst hm
        exact X_iret dX11_coat_33 rfl
def mX11_thing (P : Nat → Nat → Nat) (I : Nat → Nat → Int32) (L : Nat → Nat → Int64) (a1 : Int32) (a2 : Int32) : Option (Int32) := (Option.bind (mX11_isThing P I a1) (fun q1 => (if q1 = 0 then (some (-2 : Int32)) else (if a2 = (0 : Int32) then (if inb a1 4 = true then (some (I ((P 12 0) + 1) (ix a1))) else none) else (if a2 = (1 : Int32) then (if inb a1 4 = true then (some (I ((P 12 0) + 2) (ix a1))) else none) else (if a2 = (2 : Int32) then (if inb a1 4 = true then (some (I ((P 12 0) + 3) (ix a1))) else none) else (if a2 = (3 : Int32) then (Option.bind (mX7_ownerOfThing I L (P 12 0) 24 a1) (fun q11 => (some q11))) else (if a2 = (4 : Int32) then (Option.bind (mX11_isBare I a1) (fun q14 => (if q14 = 0 then (some (0 : Int32)) else (some (1 : Int32))))) else (some (-2 : Int32))))))))))
set_option maxHeartbeats 400000 in
set_option maxRecDepth 100000 in
theorem kX11_thing {E : xE} {B : Nat} {n : Nat} {K : Nat → Nat × Nat} {P : Nat → Nat → Nat} {I : Nat → Nat → Int32} {L : Nat → Nat → Int64}  {a1 : Int32} {a2 : Int32} {q : Int32} (d : Nat) (hd : 5 ≤ d) (G : GW K P)   (hm : mX11_thing P I L a1 a2 = some q) : MX E B d 0 0 yX11_thing cX11_thing 3 (some .int) [.ref 1, .int a1, .int a2] (n, K, P, I, L) (some (.int q), (n, K, P, I, L)) := by
  refine MX_of (lv := [(0, .ref 1), (1, .int a1), (2, .int a2)]) (by decide +kernel) (Nat.le_of_ble_eq_true rfl) rfl ?_
  obtain ⟨d, rfl⟩ : ∃ d0, d = d0 + 1 := ⟨d - 1, by omega⟩
  unfold mX11_thing at hm
  refine X_aload_n 0 dX11_thing_0 rfl rfl rfl ?_
  refine X_iload_n 1 dX11_thing_1 rfl rfl ?_
  obtain ⟨q1, e2, hm⟩ := ob hm
  refine X_cV1 (ci := 10) (kX11_isThing d (by omega) G e2) ml_X11_192 mi_X11_isThing rfl cf_10 (g_K1 G) rfl rfl (Nat.le_refl _) ⟨Nat.le_refl _, Nat.le_refl _⟩ (Nat.le_of_ble_eq_true rfl) dX11_thing_2 ?_
  refine X_if_ne (tgt := 11) dX11_thing_5 (by decide) (fun c3 => ?_) (fun c3 => ?_)
  · replace hm := iq c3 hm
    refine X_iload_n 2 dX11_thing_11 rfl rfl ?_
    rcases Decidable.em (a2 = (0 : Int32)) with c4 | c4
    · replace hm := ip c4 hm
      refine X_swK (off := 36) (tgt := 48) c4 dX11_thing_12 (by decide) (by decide) (by decide) (by decide) ?_
      refine X_aload_n 0 dX11_thing_48 rfl rfl rfl ?_
      refine X_getPe fl_X11_38 (g_K1 G) rfl (g_P1_6 G) dX11_thing_49 ?_
      refine X_getP fl_X11_116 (g_K12 G) rfl dX11_thing_52 ?_
      refine X_getPe fl_X11_195 (gl9_st G (g_K12 G)) rfl (gl6_P9 G (gl9_st G (g_K12 G))) dX11_thing_55 ?_
      refine X_iload_n 1 dX11_thing_58 rfl rfl ?_
      obtain ⟨g5, hm⟩ := og hm
      refine X_ialdJ (gl6_K1 G (gl9_st G (g_K12 G))) g5 rfl dX11_thing_59 ?_
      replace hm := Option.some.inj hm
      subst hm
      exact X_iret dX11_thing_60 rfl
    · replace hm := iq c4 hm
      rcases Decidable.em (a2 = (1 : Int32)) with c6 | c6
      · replace hm := ip c6 hm
        refine X_swK (off := 49) (tgt := 61) c6 dX11_thing_12 (by decide) (by decide) (by decide) (by decide) ?_
        refine X_aload_n 0 dX11_thing_61 rfl rfl rfl ?_
        refine X_getPe fl_X11_38 (g_K1 G) rfl (g_P1_6 G) dX11_thing_62 ?_
        refine X_getP fl_X11_116 (g_K12 G) rfl dX11_thing_65 ?_
        refine X_getPe fl_X11_198 (gl9_st G (g_K12 G)) rfl (gl6_P10 G (gl9_st G (g_K12 G))) dX11_thing_68 ?_
        refine X_iload_n 1 dX11_thing_71 rfl rfl ?_
        obtain ⟨g7, hm⟩ := og hm
        refine X_ialdJ (gl6_K2 G (gl9_st G (g_K12 G))) g7 rfl dX11_thing_72 ?_
        replace hm := Option.some.inj hm
        subst hm
        exact X_iret dX11_thing_73 rfl
      · replace hm := iq c6 hm
        rcases Decidable.em (a2 = (2 : Int32)) with c8 | c8
        · replace hm := ip c8 hm
          refine X_swK (off := 62) (tgt := 74) c8 dX11_thing_12 (by decide) (by decide) (by decide) (by decide) ?_
          refine X_aload_n 0 dX11_thing_74 rfl rfl rfl ?_
          refine X_getPe fl_X11_38 (g_K1 G) rfl (g_P1_6 G) dX11_thing_75 ?_
          refine X_getP fl_X11_116 (g_K12 G) rfl dX11_thing_78 ?_
          refine X_getPe fl_X11_201 (gl9_st G (g_K12 G)) rfl (gl6_P11 G (gl9_st G (g_K12 G))) dX11_thing_81 ?_
          refine X_iload_n 1 dX11_thing_84 rfl rfl ?_
          obtain ⟨g9, hm⟩ := og hm
          refine X_ialdJ (gl6_K3 G (gl9_st G (g_K12 G))) g9 rfl dX11_thing_85 ?_
          replace hm := Option.some.inj hm
          subst hm
          exact X_iret dX11_thing_86 rfl
        · replace hm := iq c8 hm
          rcases Decidable.em (a2 = (3 : Int32)) with c10 | c10
          · replace hm := ip c10 hm
            refine X_swK (off := 75) (tgt := 87) c10 dX11_thing_12 (by decide) (by decide) (by decide) (by decide) ?_
            refine X_aload_n 0 dX11_thing_87 rfl rfl rfl ?_
            refine X_getPe fl_X11_38 (g_K1 G) rfl (g_P1_6 G) dX11_thing_88 ?_
            refine X_getP fl_X11_116 (g_K12 G) rfl dX11_thing_91 ?_
            refine X_aload_n 0 dX11_thing_94 rfl rfl rfl ?_
            refine X_getPe fl_X11_38 (g_K1 G) rfl (g_P1_6 G) dX11_thing_95 ?_
            refine X_getPe fl_X11_142 (g_K12 G) rfl (g_P12_1 G) dX11_thing_98 ?_
            refine X_iload_n 1 dX11_thing_101 rfl rfl ?_
            obtain ⟨q11, e12, hm⟩ := ob hm
            refine X_cV1 (ci := 6) (kX7_ownerOfThing d (by omega) G (gl9_st G (g_K12 G)) (g_K24 G) e12) ml_X11_204 mi_X7_ownerOfThing rfl cf_6 (gl9_st G (g_K12 G)) rfl rfl (Nat.le_refl _) ⟨Nat.le_refl _, Nat.le_refl _⟩ (Nat.le_of_ble_eq_true rfl) dX11_thing_102 ?_
            replace hm := Option.some.inj hm
            subst hm
            exact X_iret dX11_thing_105 rfl
          · replace hm := iq c10 hm
            rcases Decidable.em (a2 = (4 : Int32)) with c13 | c13
            · replace hm := ip c13 hm
              refine X_swK (off := 94) (tgt := 106) c13 dX11_thing_12 (by decide) (by decide) (by decide) (by decide) ?_
              refine X_aload_n 0 dX11_thing_106 rfl rfl rfl ?_
              refine X_iload_n 1 dX11_thing_107 rfl rfl ?_
              obtain ⟨q14, e15, hm⟩ := ob hm
              refine X_cV1 (ci := 10) (kX11_isBare d (by omega) G e15) ml_X11_208 mi_X11_isBare rfl cf_10 (g_K1 G) rfl rfl (Nat.le_refl _) ⟨Nat.le_refl _, Nat.le_refl _⟩ (Nat.le_of_ble_eq_true rfl) dX11_thing_108 ?_
              refine X_if_eq (tgt := 118) dX11_thing_111 (by decide) (fun c16 => ?_) (fun c16 => ?_)
              · replace hm := ip c16 hm
                refine X_iconst (v := (0 : Int32)) dX11_thing_118 (by decide) ?_
                replace hm := Option.some.inj hm
                subst hm
                exact X_iret dX11_thing_119 rfl
              · replace hm := iq c16 hm
                refine X_iconst (v := (1 : Int32)) dX11_thing_114 (by decide) ?_
                refine X_goto (tgt := 119) dX11_thing_115 (by decide) ?_
                replace hm := Option.some.inj hm
                subst hm
                exact X_iret dX11_thing_119 rfl
            · replace hm := iq c13 hm
              refine X_tableOut (tgt := 120) dX11_thing_12 (sw_out 5 (by decide) (fun i hi => by
                have hi2 : i = 0 ∨ i = 1 ∨ i = 2 ∨ i = 3 ∨ i = 4 := by omega
                rcases hi2 with rfl | rfl | rfl | rfl | rfl
                · exact c4
                · exact c6
                · exact c8
                · exact c10
                · exact c13)) (by decide) ?_
              refine X_bipush (v := (-2 : Int32)) dX11_thing_120 (by decide) ?_
              replace hm := Option.some.inj hm
              subst hm
              exact X_iret dX11_thing_122 rfl
  · replace hm := ip c3 hm
    refine X_bipush (v := (-2 : Int32)) dX11_thing_8 (by decide) ?_
    replace hm := Option.some.inj hm
    subst hm
    exact X_iret dX11_thing_10 rfl

def mX5_search_62 (r_X5_search : (Nat → Nat → Int32) → Int32 → Int32 → Int32 → Option ((Nat → Nat → Int32)))  : Nat → (Nat → Nat → Int32) → Int32 → Int32 → Int32 → Int32 → Option ((Nat → Nat → Int32))
  | 0, _, _, _, _, _ => none
  | f + 1, I, a1, a2, a3, a4 => (if inb a1 6 = true then (if (I 117 (ix a1)) < a4 then (some I) else (if inb a1 6 = true then (if inb a1 6 = true then (if inb a4 6 = true then (Option.bind (mX7_oneFor ((xu I 118 (ix a1) a4) (111 + ix a1) (ix a4))) (fun q8 => (Option.bind (r_X5_search (xu I 118 (ix a1) a4) (a1 + (1 : Int32)) (a2 + a4) (a3 + q8)) (fun q10 => (mX5_search_62 r_X5_search f q10 a1 a2 a3 (a4 + 1)))))) else none) else none) else none)) else none)
set_option maxHeartbeats 400000 in
set_option maxRecDepth 100000 in
theorem kX5_search_62 {E : xE} {B : Nat} {n : Nat} {K : Nat → Nat × Nat} {P : Nat → Nat → Nat} {L : Nat → Nat → Int64} {r_X5_search : (Nat → Nat → Int32) → Int32 → Int32 → Int32 → Option ((Nat → Nat → Int32))}  {q : (Nat → Nat → Int32)} (d : Nat) (hd : 2 ≤ d) (G : GW K P) (dr : Nat) (hdr : 1 + dr ≤ d) (hr_X5_search : ∀ {n : Nat} {L : Nat → Nat → Int64} {I : Nat → Nat → Int32} {a1 : Int32} {a2 : Int32} {a3 : Int32} {q : (Nat → Nat → Int32)}, GW K P → r_X5_search I a1 a2 a3 = some q → MX E B dr 0 0 yX5_search cX5_search 5 (none : Option Jvm.ClassFile.FieldType) [.ref 109, .int a1, .int a2, .int a3] (n, K, P, I, L) (none, (n, K, P, q, L)))  : ∀ (f : Nat) (I : Nat → Nat → Int32) (a1 : Int32) (a2 : Int32) (a3 : Int32) (a4 : Int32), mX5_search_62 r_X5_search f I a1 a2 a3 a4 = some q → X E B d 0 0 yX5_search cX5_search 5 (none : Option Jvm.ClassFile.FieldType) (none, (n, K, P, q, L)) 62 [(0, .ref 109), (1, .int a1), (2, .int a2), (3, .int a3), (4, .int a4)] [] 0 0 (n, K, P, I, L) := by
  obtain ⟨d, rfl⟩ : ∃ d0, d = d0 + 1 := ⟨d - 1, by omega⟩
  intro f
  induction f with
  | zero => intro _ _ _ _ _ hm; exact nomatch (show (none : Option ((Nat → Nat → Int32))) = some q from hm)
  | succ f ih =>
    intro I a1 a2 a3 a4 hm
    rw [mX5_search_62] at hm
    refine X_iload 4 dX5_search_62 rfl ?_
    refine X_aload_n 0 dX5_search_64 rfl rfl rfl ?_
    refine X_getPe fl_X5_16 (g_K109 G) rfl (g_P109_1 G) dX5_search_65 ?_
    refine X_iload_n 1 dX5_search_68 rfl rfl ?_
    obtain ⟨g3, hm⟩ := og hm
    refine X_ialdJ (g_K117 G) g3 rfl dX5_search_69 ?_
    refine X_icmp_gt (tgt := 112) dX5_search_70 (by decide) (fun c4 => ?_) (fun c4 => ?_)
    · replace hm := ip c4 hm
      replace hm := Option.some.inj hm
      subst hm
      exact X_vret dX5_search_112 rfl
    · replace hm := iq c4 hm
      refine X_aload_n 0 dX5_search_73 rfl rfl rfl ?_
      refine X_getPe fl_X5_20 (g_K109 G) rfl (g_P109_2 G) dX5_search_74 ?_
      refine X_iload_n 1 dX5_search_77 rfl rfl ?_
      refine X_iload 4 dX5_search_78 rfl ?_
      obtain ⟨g5, hm⟩ := og hm
      refine X_iastJ (g_K118 G) g5 rfl dX5_search_80 ?_
      refine X_aload_n 0 dX5_search_81 rfl rfl rfl ?_
      refine X_iload_n 1 dX5_search_82 rfl rfl ?_
      refine X_iconst (v := (1 : Int32)) dX5_search_83 (by decide) ?_
      refine X_iadd dX5_search_84 ?_
      refine X_iload_n 2 dX5_search_85 rfl rfl ?_
      refine X_iload 4 dX5_search_86 rfl ?_
      refine X_iadd dX5_search_88 ?_
      refine X_iload_n 3 dX5_search_89 rfl rfl ?_
      refine X_aload_n 0 dX5_search_90 rfl rfl rfl ?_
      refine X_getPe fl_X5_11 (g_K109 G) rfl (g_P109_0 G) dX5_search_91 ?_
      refine X_iload_n 1 dX5_search_94 rfl rfl ?_
      obtain ⟨g6, hm⟩ := og hm
      refine X_aaldJ (g_K110 G) (by decide) rfl g6 (g_rowP110 G (inb_lt g6)) dX5_search_95 ?_
      refine X_iload 4 dX5_search_96 rfl ?_
      obtain ⟨g7, hm⟩ := og hm
      refine X_ialdJ (g_rowK110 G (inb_lt g6)) g7 rfl dX5_search_98 ?_
      obtain ⟨q8, e9, hm⟩ := ob hm
      refine X_cS1 (kX7_oneFor d (by omega) G e9) ml_X5_85 ms_X7_oneFor rfl rfl (Nat.le_refl _) ⟨Nat.le_refl _, Nat.le_refl _⟩ (Nat.le_of_ble_eq_true rfl) dX5_search_99 ?_
      refine X_iadd dX5_search_102 ?_
      obtain ⟨q10, e11, hm⟩ := ob hm
      refine X_cV0 (ci := 4) (hr_X5_search G e11) ml_X5_71 mi_X5_search rfl cf_4 (g_K109 G) rfl rfl (by omega) ⟨Nat.le_refl _, Nat.le_refl _⟩ (Nat.le_of_ble_eq_true rfl) dX5_search_103 ?_
      refine X_iinc (lv' := [(4, .int (a4 + 1)), (0, .ref 109), (1, .int a1), (2, .int a2), (3, .int a3)]) 4 dX5_search_106 rfl rfl (by decide) rfl ?_
      refine X_goto (tgt := 62) dX5_search_109 (by decide) ?_
      exact X_lv [1, 2, 3, 4, 0] rfl (ih _ _ _ _ _ hm)
def mX5_search (r_X5_search : (Nat → Nat → Int32) → Int32 → Int32 → Int32 → Option ((Nat → Nat → Int32))) (I : Nat → Nat → Int32) (a1 : Int32) (a2 : Int32) (a3 : Int32) : Option ((Nat → Nat → Int32)) := (if a2 < (I 109 4) then (if a1 < (I 109 5) then (mX5_search_62 r_X5_search xf I a1 a2 a3 (0 : Int32)) else (Option.bind (mX7_ownerBy a3 (I 109 5) (I 109 6)) (fun q12 => (if q12 = (I 109 7) then (if xcb (0 : Int32) (0 : Int32) ((xu I 109 4 a2) 109 5) 6 6 = true then (some (xrow (xu I 109 4 a2) 119 (va_cpy ((xu I 109 4 a2) 118) ((xu I 109 4 a2) 119) (ix (0 : Int32)) (ix (0 : Int32)) (ix ((xu I 109 4 a2) 109 5))))) else none) else (some I))))) else (some I))
set_option maxHeartbeats 400000 in
set_option maxRecDepth 100000 in
theorem kX5_search {E : xE} {B : Nat} {n : Nat} {K : Nat → Nat × Nat} {P : Nat → Nat → Nat} {I : Nat → Nat → Int32} {L : Nat → Nat → Int64} {r_X5_search : (Nat → Nat → Int32) → Int32 → Int32 → Int32 → Option ((Nat → Nat → Int32))} {a1 : Int32} {a2 : Int32} {a3 : Int32} {q : (Nat → Nat → Int32)} (d : Nat) (hd : 2 ≤ d) (G : GW K P) (dr : Nat) (hdr : 1 + dr ≤ d) (hr_X5_search : ∀ {n : Nat} {L : Nat → Nat → Int64} {I : Nat → Nat → Int32} {a1 : Int32} {a2 : Int32} {a3 : Int32} {q : (Nat → Nat → Int32)}, GW K P → r_X5_search I a1 a2 a3 = some q → MX E B dr 0 0 yX5_search cX5_search 5 (none : Option Jvm.ClassFile.FieldType) [.ref 109, .int a1, .int a2, .int a3] (n, K, P, I, L) (none, (n, K, P, q, L)))  (hm : mX5_search r_X5_search I a1 a2 a3 = some q) : MX E B d 0 0 yX5_search cX5_search 5 (none : Option Jvm.ClassFile.FieldType) [.ref 109, .int a1, .int a2, .int a3] (n, K, P, I, L) (none, (n, K, P, q, L)) := by
  refine MX_of (lv := [(0, .ref 109), (1, .int a1), (2, .int a2), (3, .int a3)]) (by decide +kernel) (Nat.le_of_ble_eq_true rfl) rfl ?_
  obtain ⟨d, rfl⟩ : ∃ d0, d = d0 + 1 := ⟨d - 1, by omega⟩
  unfold mX5_search at hm
  refine X_iload_n 2 dX5_search_0 rfl rfl ?_
  refine X_aload_n 0 dX5_search_1 rfl rfl rfl ?_
  refine X_getI fl_X5_68 (g_K109 G) rfl dX5_search_2 ?_
  refine X_icmp_lt (tgt := 9) dX5_search_5 (by decide) (fun c1 => ?_) (fun c1 => ?_)
  · replace hm := ip c1 hm
    refine X_iload_n 1 dX5_search_9 rfl rfl ?_
    refine X_aload_n 0 dX5_search_10 rfl rfl rfl ?_
    refine X_getI fl_X5_35 (g_K109 G) rfl dX5_search_11 ?_
    refine X_icmp_lt (tgt := 59) dX5_search_14 (by decide) (fun c2 => ?_) (fun c2 => ?_)
    · replace hm := ip c2 hm
      refine X_iconst (v := (0 : Int32)) dX5_search_59 (by decide) ?_
      refine X_istore (lv' := [(4, .int (0 : Int32)), (0, .ref 109), (1, .int a1), (2, .int a2), (3, .int a3)]) dX5_search_60 (by decide) rfl ?_
      refine X_lv [1, 2, 3, 4, 0] rfl (kX5_search_62 _ hd G dr hdr hr_X5_search xf _ _ _ _ _  hm)
    · replace hm := iq c2 hm
      refine X_iload_n 3 dX5_search_17 rfl rfl ?_
      refine X_aload_n 0 dX5_search_18 rfl rfl rfl ?_
      refine X_getI fl_X5_35 (g_K109 G) rfl dX5_search_19 ?_
      refine X_aload_n 0 dX5_search_22 rfl rfl rfl ?_
      refine X_getI fl_X5_41 (g_K109 G) rfl dX5_search_23 ?_
      obtain ⟨q12, e13, hm⟩ := ob hm
      refine X_cS1 (kX7_ownerBy d (by omega) G e13) ml_X5_75 ms_X7_ownerBy rfl rfl (Nat.le_refl _) ⟨Nat.le_refl _, Nat.le_refl _⟩ (Nat.le_of_ble_eq_true rfl) dX5_search_26 ?_
      refine X_aload_n 0 dX5_search_29 rfl rfl rfl ?_
      refine X_getI fl_X5_26 (g_K109 G) rfl dX5_search_30 ?_
      refine X_icmp_ne (tgt := 58) dX5_search_33 (by decide) (fun c14 => ?_) (fun c14 => ?_)
      · replace hm := iq c14 hm
        replace hm := Option.some.inj hm
        subst hm
        exact X_vret dX5_search_58 rfl
      · replace hm := ip c14 hm
        refine X_aload_n 0 dX5_search_36 rfl rfl rfl ?_
        refine X_iload_n 2 dX5_search_37 rfl rfl ?_
        refine X_putI fl_X5_68 (g_K109 G) rfl rfl dX5_search_38 ?_
        refine X_aload_n 0 dX5_search_41 rfl rfl rfl ?_
        refine X_getPe fl_X5_20 (g_K109 G) rfl (g_P109_2 G) dX5_search_42 ?_
        refine X_iconst (v := (0 : Int32)) dX5_search_45 (by decide) ?_
        refine X_aload_n 0 dX5_search_46 rfl rfl rfl ?_
        refine X_getPe fl_X5_23 (g_K109 G) rfl (g_P109_3 G) dX5_search_47 ?_
        refine X_iconst (v := (0 : Int32)) dX5_search_50 (by decide) ?_
        refine X_aload_n 0 dX5_search_51 rfl rfl rfl ?_
        refine X_getI fl_X5_35 (g_K109 G) rfl dX5_search_52 ?_
        obtain ⟨g15, hm⟩ := og hm
        refine X_copyI (g_K118 G) (g_K119 G) al_X5_79 ay_n ay_s ay_i g15 (by omega) (Nat.le_of_ble_eq_true rfl) dX5_search_55 ?_
        replace hm := Option.some.inj hm
        subst hm
        exact X_vret dX5_search_58 rfl
  · replace hm := iq c1 hm
    replace hm := Option.some.inj hm
    subst hm
    exact X_vret dX5_search_8 rfl
def zX5_search  : Nat → (Nat → Nat → Int32) → Int32 → Int32 → Int32 → Option ((Nat → Nat → Int32))
  | 0, _, _, _, _ => none
  | f + 1, I, a1, a2, a3 => mX5_search (fun I a1 a2 a3 => zX5_search  f I a1 a2 a3)  I a1 a2 a3
theorem zgX5_search {E : xE} {B : Nat} {K : Nat → Nat × Nat} {P : Nat → Nat → Nat}  (G : GW K P) : ∀ (f : Nat) {n : Nat} {L : Nat → Nat → Int64} {I : Nat → Nat → Int32} {a1 : Int32} {a2 : Int32} {a3 : Int32} {q : (Nat → Nat → Int32)} (d : Nat), 2 + f ≤ d → zX5_search  f I a1 a2 a3 = some q → MX E B d 0 0 yX5_search cX5_search 5 (none : Option Jvm.ClassFile.FieldType) [.ref 109, .int a1, .int a2, .int a3] (n, K, P, I, L) (none, (n, K, P, q, L)) := by
  intro f
  induction f with
  | zero => intro n L _ _ _ _ q d hd  hm; exact nomatch (show (none : Option ((Nat → Nat → Int32))) = some q from hm)
  | succ f ih =>
    intro n L I a1 a2 a3 q d hd  hm
    rw [zX5_search] at hm
    exact kX5_search d (by omega) G (d - 1) (by omega) (fun {n} {L} {I} {a1} {a2} {a3} {q} G2  hm2 => ih (d - 1) (by omega)  hm2)  hm
theorem zkX5_search {E : xE} {B : Nat} {n : Nat} {K : Nat → Nat × Nat} {P : Nat → Nat → Nat} {L : Nat → Nat → Int64} {I : Nat → Nat → Int32} {a1 : Int32} {a2 : Int32} {a3 : Int32} {q : (Nat → Nat → Int32)} (d : Nat) (hd : 12 ≤ d) (G : GW K P) (hm : zX5_search  10 I a1 a2 a3 = some q) : MX E B d 0 0 yX5_search cX5_search 5 (none : Option Jvm.ClassFile.FieldType) [.ref 109, .int a1, .int a2, .int a3] (n, K, P, I, L) (none, (n, K, P, q, L)) := zgX5_search G 10 d (by omega)  hm
def mX5_find_68 (L : Nat → Nat → Int64) (e111 : (Nat → Nat → Int32) → Nat → Nat → Int32 → Int32 → Option (Int32 × (Nat → Nat → Int32))) : Nat → (Nat → Nat → Int32) → Nat → Nat → Int32 → Int32 → Int64 → Int32 → Option (Int32 × (Nat → Nat → Int32))
  | 0, _, _, _, _, _, _, _ => none
  | f + 1, I, a1, a2, a4, a5, a6, a8 => (if inb a5 6 = true then (if (I 117 (ix a5)) < a8 then (e111 I a1 a2 a4 a5) else (if inb a5 6 = true then (Option.bind (mX0_without a6 a8) (fun q11 => (Option.bind (mX7_ownerOf I a1 q11 (I a2 2)) (fun q13 => (if inb a8 6 = true then (mX5_find_68 L e111 f (xu I (111 + ix a5) (ix a8) q13) a1 a2 a4 a5 a6 (a8 + 1)) else none))))) else none)) else none)
set_option maxHeartbeats 400000 in
set_option maxRecDepth 100000 in
theorem kX5_find_68 {E : xE} {B : Nat} {n : Nat} {K : Nat → Nat × Nat} {P : Nat → Nat → Nat} {L : Nat → Nat → Int64}  {e111 : (Nat → Nat → Int32) → Nat → Nat → Int32 → Int32 → Option (Int32 × (Nat → Nat → Int32))} {q : Int32 × (Nat → Nat → Int32)} (d : Nat) (hd : 13 ≤ d) (G : GW K P)  (he111 : ∀ (I : Nat → Nat → Int32) (a1 : Nat) (a2 : Nat) (a4 : Int32) (a5 : Int32), K a1 = (6, 0) → K a2 = (5, 0) → e111 I a1 a2 a4 a5 = some q → X E B d 0 0 yX5_find cX5_find 9 (some .boolean) (some (.int q.1), (n, K, P, q.2, L)) 111 [(0, .ref 109), (1, .ref a1), (2, .ref a2), (4, .int a4), (5, .int a5)] [] 0 0 (n, K, P, I, L)) : ∀ (f : Nat) (I : Nat → Nat → Int32) (a1 : Nat) (a2 : Nat) (a4 : Int32) (a5 : Int32) (a6 : Int64) (a8 : Int32), K a1 = (6, 0) → K a2 = (5, 0) → mX5_find_68 L e111 f I a1 a2 a4 a5 a6 a8 = some q → X E B d 0 0 yX5_find cX5_find 9 (some .boolean) (some (.int q.1), (n, K, P, q.2, L)) 68 [(0, .ref 109), (1, .ref a1), (2, .ref a2), (4, .int a4), (5, .int a5), (6, .long a6), (8, .int a8)] [] 0 0 (n, K, P, I, L) := by
  obtain ⟨d, rfl⟩ : ∃ d0, d = d0 + 1 := ⟨d - 1, by omega⟩
  intro f
  induction f with
  | zero => intro _ _ _ _ _ _ _ _ _ hm; exact nomatch (show (none : Option (Int32 × (Nat → Nat → Int32))) = some q from hm)
  | succ f ih =>
    intro I a1 a2 a4 a5 a6 a8 h1 h2 hm
    rw [mX5_find_68] at hm
    refine X_iload 6 dX5_find_68 rfl ?_
    refine X_aload_n 0 dX5_find_70 rfl rfl rfl ?_
    refine X_getPe fl_X5_16 (g_K109 G) rfl (g_P109_1 G) dX5_find_71 ?_
    refine X_iload 4 dX5_find_74 rfl ?_
    obtain ⟨g8, hm⟩ := og hm
    refine X_ialdJ (g_K117 G) g8 rfl dX5_find_76 ?_
    refine X_icmp_gt (tgt := 111) dX5_find_77 (by decide) (fun c9 => ?_) (fun c9 => ?_)
    · replace hm := ip c9 hm
      exact X_lv [0, 1, 2, 3, 4] rfl (he111 _ _ _ _ _ h1 h2 hm)
    · replace hm := iq c9 hm
      refine X_aload_n 0 dX5_find_80 rfl rfl rfl ?_
      refine X_getPe fl_X5_11 (g_K109 G) rfl (g_P109_0 G) dX5_find_81 ?_
      refine X_iload 4 dX5_find_84 rfl ?_
      obtain ⟨g10, hm⟩ := og hm
      refine X_aaldJ (g_K110 G) (by decide) rfl g10 (g_rowP110 G (inb_lt g10)) dX5_find_86 ?_
      refine X_iload 6 dX5_find_87 rfl ?_
      refine X_aload_n 1 dX5_find_89 rfl rfl rfl ?_
      refine X_lload 5 dX5_find_90 rfl ?_
      refine X_iload 6 dX5_find_92 rfl ?_
      obtain ⟨q11, e12, hm⟩ := ob hm
      refine X_cS1 (kX0_without d (by omega) G e12) ml_X5_57 ms_X0_without rfl rfl (Nat.le_refl _) ⟨Nat.le_refl _, Nat.le_refl _⟩ (Nat.le_of_ble_eq_true rfl) dX5_find_94 ?_
      refine X_aload_n 2 dX5_find_97 rfl rfl rfl ?_
      refine X_getI fl_X5_61 h2 rfl dX5_find_98 ?_
      obtain ⟨q13, e14, hm⟩ := ob hm
      refine X_cV1 (ci := 6) (kX7_ownerOf d (by omega) G h1 e14) ml_X5_64 mi_X7_ownerOf rfl cf_6 h1 rfl rfl (Nat.le_refl _) ⟨Nat.le_refl _, Nat.le_refl _⟩ (Nat.le_of_ble_eq_true rfl) dX5_find_101 ?_
      obtain ⟨g15, hm⟩ := og hm
      refine X_iastJ (g_rowK110 G (inb_lt g10)) g15 rfl dX5_find_104 ?_
      refine X_iinc (lv' := [(8, .int (a8 + 1)), (0, .ref 109), (1, .ref a1), (2, .ref a2), (4, .int a4), (5, .int a5), (6, .long a6)]) 6 dX5_find_105 rfl rfl (by decide) rfl ?_
      refine X_goto (tgt := 68) dX5_find_108 (by decide) ?_
      exact X_lv [1, 2, 3, 4, 5, 6, 0] rfl (ih _ _ _ _ _ _ _ h1 h2 hm)
def mX5_find_27 (L : Nat → Nat → Int64) (e117 : (Nat → Nat → Int32) → Option (Int32 × (Nat → Nat → Int32))) : Nat → (Nat → Nat → Int32) → Nat → Nat → Int32 → Int32 → Option (Int32 × (Nat → Nat → Int32))
  | 0, _, _, _, _, _ => none
  | f + 1, I, a1, a2, a4, a5 => (if (I 109 5) ≤ a5 then (e117 I) else (if inb a4 4 = true then (if inb ((I (a1 + 1) (ix a4)) + a5) 16 = true then (Option.bind (mX0_height (L (a2 + 1) (ix ((I (a1 + 1) (ix a4)) + a5)))) (fun q5 => (if inb a5 6 = true then (mX5_find_68 L (fun (I_16 : (Nat → Nat → Int32)) (a1_16 : Nat) (a2_16 : Nat) (a4_16 : Int32) (a5_16 : Int32) => (mX5_find_27 L e117 f I_16 a1_16 a2_16 a4_16 (a5_16 + 1))) xf (xu I 117 (ix a5) q5) a1 a2 a4 a5 (L (a2 + 1) (ix ((I (a1 + 1) (ix a4)) + a5))) (0 : Int32)) else none))) else none) else none))
set_option maxHeartbeats 400000 in
set_option maxRecDepth 100000 in
theorem kX5_find_27 {E : xE} {B : Nat} {n : Nat} {K : Nat → Nat × Nat} {P : Nat → Nat → Nat} {L : Nat → Nat → Int64}  {e117 : (Nat → Nat → Int32) → Option (Int32 × (Nat → Nat → Int32))} {q : Int32 × (Nat → Nat → Int32)} (d : Nat) (hd : 13 ≤ d) (G : GW K P)  (he117 : ∀ (I : Nat → Nat → Int32), e117 I = some q → X E B d 0 0 yX5_find cX5_find 9 (some .boolean) (some (.int q.1), (n, K, P, q.2, L)) 117 [(0, .ref 109)] [] 0 0 (n, K, P, I, L)) : ∀ (f : Nat) (I : Nat → Nat → Int32) (a1 : Nat) (a2 : Nat) (a4 : Int32) (a5 : Int32), K a1 = (6, 0) → K a2 = (5, 0) → mX5_find_27 L e117 f I a1 a2 a4 a5 = some q → X E B d 0 0 yX5_find cX5_find 9 (some .boolean) (some (.int q.1), (n, K, P, q.2, L)) 27 [(0, .ref 109), (1, .ref a1), (2, .ref a2), (4, .int a4), (5, .int a5)] [] 0 0 (n, K, P, I, L) := by
  obtain ⟨d, rfl⟩ : ∃ d0, d = d0 + 1 := ⟨d - 1, by omega⟩
  intro f
  induction f with
  | zero => intro _ _ _ _ _ _ _ hm; exact nomatch (show (none : Option (Int32 × (Nat → Nat → Int32))) = some q from hm)
  | succ f ih =>
    intro I a1 a2 a4 a5 h1 h2 hm
    rw [mX5_find_27] at hm
    refine X_iload 4 dX5_find_27 rfl ?_
    refine X_aload_n 0 dX5_find_29 rfl rfl rfl ?_
    refine X_getI fl_X5_35 (g_K109 G) rfl dX5_find_30 ?_
    refine X_icmp_ge (tgt := 117) dX5_find_33 (by decide) (fun c2 => ?_) (fun c2 => ?_)
    · replace hm := ip c2 hm
      exact X_lv [0] rfl (he117 _ hm)
    · replace hm := iq c2 hm
      refine X_aload_n 2 dX5_find_36 rfl rfl rfl ?_
      refine X_getPe fl_X5_42 h2 rfl (gl5_P0 G h2) dX5_find_37 ?_
      refine X_aload_n 1 dX5_find_40 rfl rfl rfl ?_
      refine X_getPe fl_X5_48 h1 rfl (gl6_P9 G h1) dX5_find_41 ?_
      refine X_iload 3 dX5_find_44 rfl ?_
      obtain ⟨g3, hm⟩ := og hm
      refine X_ialdJ (gl6_K1 G h1) g3 rfl dX5_find_46 ?_
      refine X_iload 4 dX5_find_47 rfl ?_
      refine X_iadd dX5_find_49 ?_
      obtain ⟨g4, hm⟩ := og hm
      refine X_laldJ (gl5_K1 G h2) g4 rfl dX5_find_50 ?_
      refine X_lstore (lv' := [(6, .long (L (a2 + 1) (ix ((I (a1 + 1) (ix a4)) + a5)))), (0, .ref 109), (1, .ref a1), (2, .ref a2), (4, .int a4), (5, .int a5)]) dX5_find_51 (by decide) rfl ?_
      refine X_aload_n 1 dX5_find_53 rfl rfl rfl ?_
      refine X_getPe fl_X5_16 (g_K109 G) rfl (g_P109_1 G) dX5_find_54 ?_
      refine X_iload 5 dX5_find_57 rfl ?_
      refine X_lload 0 dX5_find_59 rfl ?_
      obtain ⟨q5, e6, hm⟩ := ob hm
      refine X_cS1 (kX0_height d (by omega) G e6) ml_X5_51 ms_X0_height rfl rfl (Nat.le_refl _) ⟨Nat.le_refl _, Nat.le_refl _⟩ (Nat.le_of_ble_eq_true rfl) dX5_find_61 ?_
      obtain ⟨g7, hm⟩ := og hm
      refine X_iastJ (g_K117 G) g7 rfl dX5_find_64 ?_
      refine X_iconst (v := (0 : Int32)) dX5_find_65 (by decide) ?_
      refine X_istore (lv' := [(8, .int (0 : Int32)), (6, .long (L (a2 + 1) (ix ((I (a1 + 1) (ix a4)) + a5)))), (0, .ref 109), (1, .ref a1), (2, .ref a2), (4, .int a4), (5, .int a5)]) dX5_find_66 (by decide) rfl ?_
      refine X_lv [2, 3, 4, 5, 6, 1, 0] rfl (kX5_find_68 _ hd G (fun I_16 a1_16 a2_16 a4_16 a5_16 h1_16 h2_16 hm => ?_) xf _ _ _ _ _ _ _ h1 h2 hm)
      refine X_iinc (lv' := [(5, .int (a5_16 + 1)), (0, .ref 109), (1, .ref a1_16), (2, .ref a2_16), (4, .int a4_16)]) 4 dX5_find_111 rfl rfl (by decide) rfl ?_
      refine X_goto (tgt := 27) dX5_find_114 (by decide) ?_
      exact X_lv [1, 2, 3, 4, 0] rfl (ih _ _ _ _ _ h1_16 h2_16 hm)
def mX5_find (L : Nat → Nat → Int64) (I : Nat → Nat → Int32) (a1 : Nat) (a2 : Nat) (a3 : Int32) (a4 : Int32) : Option (Int32 × (Nat → Nat → Int32)) := (if inb a4 4 = true then (mX5_find_27 L (fun (I_17 : (Nat → Nat → Int32)) => (Option.bind (zX5_search 10 (xu I_17 109 4 (31 : Int32)) (0 : Int32) (0 : Int32) (0 : Int32)) (fun q18 => (if (31 : Int32) ≤ (q18 109 4) then (some ((0 : Int32), q18)) else (some ((1 : Int32), q18)))))) xf (xu (xu (xu I 109 7 a3) 109 5 ((xu I 109 7 a3) (a1 + 2) (ix a4))) 109 6 ((xu (xu I 109 7 a3) 109 5 ((xu I 109 7 a3) (a1 + 2) (ix a4))) a1 2)) a1 a2 a4 (0 : Int32)) else none)
set_option maxHeartbeats 400000 in
set_option maxRecDepth 100000 in
theorem kX5_find {E : xE} {B : Nat} {n : Nat} {K : Nat → Nat × Nat} {P : Nat → Nat → Nat} {I : Nat → Nat → Int32} {L : Nat → Nat → Int64}  {a1 : Nat} {a2 : Nat} {a3 : Int32} {a4 : Int32} {q : Int32 × (Nat → Nat → Int32)} (d : Nat) (hd : 13 ≤ d) (G : GW K P)  (h1 : K a1 = (6, 0)) (h2 : K a2 = (5, 0)) (hm : mX5_find L I a1 a2 a3 a4 = some q) : MX E B d 0 0 yX5_find cX5_find 9 (some .boolean) [.ref 109, .ref a1, .ref a2, .int a3, .int a4] (n, K, P, I, L) (some (.int q.1), (n, K, P, q.2, L)) := by
  refine MX_of (lv := [(0, .ref 109), (1, .ref a1), (2, .ref a2), (3, .int a3), (4, .int a4)]) (by decide +kernel) (Nat.le_of_ble_eq_true rfl) rfl ?_
  obtain ⟨d, rfl⟩ : ∃ d0, d = d0 + 1 := ⟨d - 1, by omega⟩
  unfold mX5_find at hm
  refine X_aload_n 0 dX5_find_0 rfl rfl rfl ?_
  refine X_iload_n 3 dX5_find_1 rfl rfl ?_
  refine X_putI fl_X5_26 (g_K109 G) rfl rfl dX5_find_2 ?_
  refine X_aload_n 0 dX5_find_5 rfl rfl rfl ?_
  refine X_aload_n 1 dX5_find_6 rfl rfl rfl ?_
  refine X_getPe fl_X5_30 h1 rfl (gl6_P10 G h1) dX5_find_7 ?_
  refine X_iload 4 dX5_find_10 rfl ?_
  obtain ⟨g1, hm⟩ := og hm
  refine X_ialdJ (gl6_K2 G h1) g1 rfl dX5_find_12 ?_
  refine X_putI fl_X5_35 (g_K109 G) rfl rfl dX5_find_13 ?_
  refine X_aload_n 0 dX5_find_16 rfl rfl rfl ?_
  refine X_aload_n 1 dX5_find_17 rfl rfl rfl ?_
  refine X_getI fl_X5_38 h1 rfl dX5_find_18 ?_
  refine X_putI fl_X5_41 (g_K109 G) rfl rfl dX5_find_21 ?_
  refine X_iconst (v := (0 : Int32)) dX5_find_24 (by decide) ?_
  refine X_istore (lv' := [(5, .int (0 : Int32)), (0, .ref 109), (1, .ref a1), (2, .ref a2), (3, .int a3), (4, .int a4)]) dX5_find_25 (by decide) rfl ?_
  refine X_lv [1, 2, 3, 5, 0] rfl (kX5_find_27 _ hd G (fun I_17 hm => ?_) xf _ _ _ _ _ h1 h2 hm)
  refine X_aload_n 0 dX5_find_117 rfl rfl rfl ?_
  refine X_bipush (v := (31 : Int32)) dX5_find_118 (by decide) ?_
  refine X_putI fl_X5_68 (g_K109 G) rfl rfl dX5_find_120 ?_
  refine X_aload_n 0 dX5_find_123 rfl rfl rfl ?_
  refine X_iconst (v := (0 : Int32)) dX5_find_124 (by decide) ?_
  refine X_iconst (v := (0 : Int32)) dX5_find_125 (by decide) ?_
  refine X_iconst (v := (0 : Int32)) dX5_find_126 (by decide) ?_
  obtain ⟨q18, e19, hm⟩ := ob hm
  refine X_cV0 (ci := 4) (zkX5_search d (by omega) G e19) ml_X5_71 mi_X5_search rfl cf_4 (g_K109 G) rfl rfl (Nat.le_refl _) ⟨Nat.le_refl _, Nat.le_refl _⟩ (Nat.le_of_ble_eq_true rfl) dX5_find_127 ?_
  refine X_aload_n 0 dX5_find_130 rfl rfl rfl ?_
  refine X_getI fl_X5_68 (g_K109 G) rfl dX5_find_131 ?_
  refine X_bipush (v := (31 : Int32)) dX5_find_134 (by decide) ?_
  refine X_icmp_ge (tgt := 143) dX5_find_136 (by decide) (fun c20 => ?_) (fun c20 => ?_)
  · replace hm := ip c20 hm
    refine X_iconst (v := (0 : Int32)) dX5_find_143 (by decide) ?_
    replace hm := Option.some.inj hm
    subst hm
    exact X_zret (v := (0 : Int32)) dX5_find_144 rfl (x_nz (Or.inl rfl))
  · replace hm := iq c20 hm
    refine X_iconst (v := (1 : Int32)) dX5_find_139 (by decide) ?_
    refine X_goto (tgt := 144) dX5_find_140 (by decide) ?_
    replace hm := Option.some.inj hm
    subst hm
    exact X_zret (v := (1 : Int32)) dX5_find_144 rfl (x_nz (Or.inr rfl))
def mX6_copyFrom  (I : Nat → Nat → Int32) (L : Nat → Nat → Int64) (a0 : Nat) (a1 : Nat) : Option ((Nat → Nat → Int32) × (Nat → Nat → Int64)) := (if xcb (0 : Int32) (0 : Int32) (16 : Int32) 16 16 = true then (if xcb (0 : Int32) (0 : Int32) (4 : Int32) 4 4 = true then (some ((xu (xu (xrow I (a0 + 2) (va_cpy (I (a1 + 2)) (I (a0 + 2)) (ix (0 : Int32)) (ix (0 : Int32)) (ix (4 : Int32)))) a0 2 ((xrow I (a0 + 2) (va_cpy (I (a1 + 2)) (I (a0 + 2)) (ix (0 : Int32)) (ix (0 : Int32)) (ix (4 : Int32)))) a1 2)) a0 3 ((xu (xrow I (a0 + 2) (va_cpy (I (a1 + 2)) (I (a0 + 2)) (ix (0 : Int32)) (ix (0 : Int32)) (ix (4 : Int32)))) a0 2 ((xrow I (a0 + 2) (va_cpy (I (a1 + 2)) (I (a0 + 2)) (ix (0 : Int32)) (ix (0 : Int32)) (ix (4 : Int32)))) a1 2)) a1 3)), (xrow L (a0 + 1) (va_cpy (L (a1 + 1)) (L (a0 + 1)) (ix (0 : Int32)) (ix (0 : Int32)) (ix (16 : Int32)))))) else none) else none)
set_option maxHeartbeats 400000 in
set_option maxRecDepth 100000 in
theorem kX6_copyFrom {E : xE} {B : Nat} {n : Nat} {K : Nat → Nat × Nat} {P : Nat → Nat → Nat} {I : Nat → Nat → Int32} {L : Nat → Nat → Int64}  {a0 : Nat} {a1 : Nat} {q : (Nat → Nat → Int32) × (Nat → Nat → Int64)} (d : Nat) (hd : 1 ≤ d) (G : GW K P)  (h0 : K a0 = (5, 0)) (h1 : K a1 = (5, 0)) (hm : mX6_copyFrom I L a0 a1 = some q) : MX E B d 0 0 yX6_copyFrom cX6_copyFrom 2 (none : Option Jvm.ClassFile.FieldType) [.ref a0, .ref a1] (n, K, P, I, L) (none, (n, K, P, q.1, q.2)) := by
  refine MX_of (lv := [(0, .ref a0), (1, .ref a1)]) (by decide +kernel) (Nat.le_of_ble_eq_true rfl) rfl ?_
  obtain ⟨d, rfl⟩ : ∃ d0, d = d0 + 1 := ⟨d - 1, by omega⟩
  unfold mX6_copyFrom at hm
  refine X_aload_n 1 dX6_copyFrom_0 rfl rfl rfl ?_
  refine X_getPe fl_X6_9 h1 rfl (gl5_P0 G h1) dX6_copyFrom_1 ?_
  refine X_iconst (v := (0 : Int32)) dX6_copyFrom_4 (by decide) ?_
  refine X_aload_n 0 dX6_copyFrom_5 rfl rfl rfl ?_
  refine X_getPe fl_X6_9 h0 rfl (gl5_P0 G h0) dX6_copyFrom_6 ?_
  refine X_iconst (v := (0 : Int32)) dX6_copyFrom_9 (by decide) ?_
  refine X_bipush (v := (16 : Int32)) dX6_copyFrom_10 (by decide) ?_
  obtain ⟨g2, hm⟩ := og hm
  refine X_copyL (gl5_K1 G h1) (gl5_K1 G h0) al_X6_19 ay_n ay_s ay_i g2 (by omega) (Nat.le_of_ble_eq_true rfl) dX6_copyFrom_12 ?_
  refine X_aload_n 1 dX6_copyFrom_15 rfl rfl rfl ?_
  refine X_getPe fl_X6_15 h1 rfl (gl5_P1 G h1) dX6_copyFrom_16 ?_
  refine X_iconst (v := (0 : Int32)) dX6_copyFrom_19 (by decide) ?_
  refine X_aload_n 0 dX6_copyFrom_20 rfl rfl rfl ?_
  refine X_getPe fl_X6_15 h0 rfl (gl5_P1 G h0) dX6_copyFrom_21 ?_
  refine X_iconst (v := (0 : Int32)) dX6_copyFrom_24 (by decide) ?_
  refine X_iconst (v := (4 : Int32)) dX6_copyFrom_25 (by decide) ?_
  obtain ⟨g1, hm⟩ := og hm
  refine X_copyI (gl5_K2 G h1) (gl5_K2 G h0) al_X6_19 ay_n ay_s ay_i g1 (by omega) (Nat.le_of_ble_eq_true rfl) dX6_copyFrom_26 ?_
  refine X_aload_n 0 dX6_copyFrom_29 rfl rfl rfl ?_
  refine X_aload_n 1 dX6_copyFrom_30 rfl rfl rfl ?_
  refine X_getI fl_X6_25 h1 rfl dX6_copyFrom_31 ?_
  refine X_putI fl_X6_25 h0 rfl rfl dX6_copyFrom_34 ?_
  refine X_aload_n 0 dX6_copyFrom_37 rfl rfl rfl ?_
  refine X_aload_n 1 dX6_copyFrom_38 rfl rfl rfl ?_
  refine X_getI fl_X6_29 h1 rfl dX6_copyFrom_39 ?_
  refine X_putI fl_X6_29 h0 rfl rfl dX6_copyFrom_42 ?_
  replace hm := Option.some.inj hm
  subst hm
  exact X_vret dX6_copyFrom_45 rfl
def mX7_driesFrom_2 (I : Nat → Nat → Int32)  : Nat → Nat → Int32 → Int32 → Option (Int32)
  | 0, _, _, _ => none
  | f + 1, a0, a1, a2 => (if (I a0 1) ≤ a2 then (some (1 : Int32)) else (Option.bind (mX7_rainsIn I a0 (a1 + a2)) (fun q2 => (if q2 = 0 then (mX7_driesFrom_2 I f a0 a1 (a2 + 1)) else (some (0 : Int32))))))
set_option maxHeartbeats 400000 in
set_option maxRecDepth 100000 in
theorem kX7_driesFrom_2 {E : xE} {B : Nat} {n : Nat} {K : Nat → Nat × Nat} {P : Nat → Nat → Nat} {I : Nat → Nat → Int32} {L : Nat → Nat → Int64}   {q : Int32} (d : Nat) (hd : 1 ≤ d) (G : GW K P)   : ∀ (f : Nat) (a0 : Nat) (a1 : Int32) (a2 : Int32), K a0 = (6, 0) → mX7_driesFrom_2 I f a0 a1 a2 = some q → X E B d 0 0 yX7_driesFrom cX7_driesFrom 3 (some .boolean) (some (.int q), (n, K, P, I, L)) 2 [(0, .ref a0), (1, .int a1), (2, .int a2)] [] 0 0 (n, K, P, I, L) := by
  obtain ⟨d, rfl⟩ : ∃ d0, d = d0 + 1 := ⟨d - 1, by omega⟩
  intro f
  induction f with
  | zero => intro _ _ _ _ hm; exact nomatch (show (none : Option (Int32)) = some q from hm)
  | succ f ih =>
    intro a0 a1 a2 h0 hm
    rw [mX7_driesFrom_2] at hm
    refine X_iload_n 2 dX7_driesFrom_2 rfl rfl ?_
    refine X_aload_n 0 dX7_driesFrom_3 rfl rfl rfl ?_
    refine X_getI fl_X7_44 h0 rfl dX7_driesFrom_4 ?_
    refine X_icmp_ge (tgt := 28) dX7_driesFrom_7 (by decide) (fun c1 => ?_) (fun c1 => ?_)
    · replace hm := ip c1 hm
      refine X_iconst (v := (1 : Int32)) dX7_driesFrom_28 (by decide) ?_
      replace hm := Option.some.inj hm
      subst hm
      exact X_zret (v := (1 : Int32)) dX7_driesFrom_29 rfl (x_nz (Or.inr rfl))
    · replace hm := iq c1 hm
      refine X_aload_n 0 dX7_driesFrom_10 rfl rfl rfl ?_
      refine X_iload_n 1 dX7_driesFrom_11 rfl rfl ?_
      refine X_iload_n 2 dX7_driesFrom_12 rfl rfl ?_
      refine X_iadd dX7_driesFrom_13 ?_
      obtain ⟨q2, e3, hm⟩ := ob hm
      refine X_cV1 (ci := 6) (kX7_rainsIn d (by omega) G h0 e3) ml_X7_47 mi_X7_rainsIn rfl cf_6 h0 rfl rfl (Nat.le_refl _) ⟨Nat.le_refl _, Nat.le_refl _⟩ (Nat.le_of_ble_eq_true rfl) dX7_driesFrom_14 ?_
      refine X_if_eq (tgt := 22) dX7_driesFrom_17 (by decide) (fun c4 => ?_) (fun c4 => ?_)
      · replace hm := ip c4 hm
        refine X_iinc (lv' := [(2, .int (a2 + 1)), (0, .ref a0), (1, .int a1)]) 2 dX7_driesFrom_22 rfl rfl (by decide) rfl ?_
        refine X_goto (tgt := 2) dX7_driesFrom_25 (by decide) ?_
        exact X_lv [1, 2, 0] rfl (ih _ _ _ h0 hm)
      · replace hm := iq c4 hm
        refine X_iconst (v := (0 : Int32)) dX7_driesFrom_20 (by decide) ?_
        replace hm := Option.some.inj hm
        subst hm
        exact X_zret (v := (0 : Int32)) dX7_driesFrom_21 rfl (x_nz (Or.inl rfl))
def mX7_driesFrom (I : Nat → Nat → Int32) (a0 : Nat) (a1 : Int32) : Option (Int32) := (mX7_driesFrom_2 I xf a0 a1 (0 : Int32))
set_option maxHeartbeats 400000 in
set_option maxRecDepth 100000 in
theorem kX7_driesFrom {E : xE} {B : Nat} {n : Nat} {K : Nat → Nat × Nat} {P : Nat → Nat → Nat} {I : Nat → Nat → Int32} {L : Nat → Nat → Int64}  {a0 : Nat} {a1 : Int32} {q : Int32} (d : Nat) (hd : 1 ≤ d) (G : GW K P)  (h0 : K a0 = (6, 0)) (hm : mX7_driesFrom I a0 a1 = some q) : MX E B d 0 0 yX7_driesFrom cX7_driesFrom 3 (some .boolean) [.ref a0, .int a1] (n, K, P, I, L) (some (.int q), (n, K, P, I, L)) := by
  refine MX_of (lv := [(0, .ref a0), (1, .int a1)]) (by decide +kernel) (Nat.le_of_ble_eq_true rfl) rfl ?_
  obtain ⟨d, rfl⟩ : ∃ d0, d = d0 + 1 := ⟨d - 1, by omega⟩
  unfold mX7_driesFrom at hm
  refine X_iconst (v := (0 : Int32)) dX7_driesFrom_0 (by decide) ?_
  refine X_istore_n (lv' := [(2, .int (0 : Int32)), (0, .ref a0), (1, .int a1)]) dX7_driesFrom_1 rfl (by decide) rfl ?_
  refine X_lv [1, 2, 0] rfl (kX7_driesFrom_2 _ hd G xf _ _ _ h0 hm)
def mX7_ownerOfThing (I : Nat → Nat → Int32) (L : Nat → Nat → Int64) (a0 : Nat) (a1 : Nat) (a2 : Int32) : Option (Int32) := (Option.bind (mX7_tallyOf I L a0 a1 a2) (fun q1 => (if inb a2 4 = true then (Option.bind (mX7_ownerBy q1 (I (a0 + 2) (ix a2)) (I a0 2)) (fun q4 => (some q4))) else none)))
set_option maxHeartbeats 400000 in
set_option maxRecDepth 100000 in
theorem kX7_ownerOfThing {E : xE} {B : Nat} {n : Nat} {K : Nat → Nat × Nat} {P : Nat → Nat → Nat} {I : Nat → Nat → Int32} {L : Nat → Nat → Int64}  {a0 : Nat} {a1 : Nat} {a2 : Int32} {q : Int32} (d : Nat) (hd : 4 ≤ d) (G : GW K P)  (h0 : K a0 = (6, 0)) (h1 : K a1 = (5, 0)) (hm : mX7_ownerOfThing I L a0 a1 a2 = some q) : MX E B d 0 0 yX7_ownerOfThing cX7_ownerOfThing 3 (some .int) [.ref a0, .ref a1, .int a2] (n, K, P, I, L) (some (.int q), (n, K, P, I, L)) := by
  refine MX_of (lv := [(0, .ref a0), (1, .ref a1), (2, .int a2)]) (by decide +kernel) (Nat.le_of_ble_eq_true rfl) rfl ?_
  obtain ⟨d, rfl⟩ : ∃ d0, d = d0 + 1 := ⟨d - 1, by omega⟩
  unfold mX7_ownerOfThing at hm
  refine X_aload_n 0 dX7_ownerOfThing_0 rfl rfl rfl ?_
  refine X_aload_n 1 dX7_ownerOfThing_1 rfl rfl rfl ?_
  refine X_iload_n 2 dX7_ownerOfThing_2 rfl rfl ?_
  obtain ⟨q1, e2, hm⟩ := ob hm
  refine X_cV1 (ci := 6) (kX7_tallyOf d (by omega) G h0 h1 e2) ml_X7_94 mi_X7_tallyOf rfl cf_6 h0 rfl rfl (Nat.le_refl _) ⟨Nat.le_refl _, Nat.le_refl _⟩ (Nat.le_of_ble_eq_true rfl) dX7_ownerOfThing_3 ?_
  refine X_aload_n 0 dX7_ownerOfThing_6 rfl rfl rfl ?_
  refine X_getPe fl_X7_15 h0 rfl (gl6_P10 G h0) dX7_ownerOfThing_7 ?_
  refine X_iload_n 2 dX7_ownerOfThing_10 rfl rfl ?_
  obtain ⟨g3, hm⟩ := og hm
  refine X_ialdJ (gl6_K2 G h0) g3 rfl dX7_ownerOfThing_11 ?_
  refine X_aload_n 0 dX7_ownerOfThing_12 rfl rfl rfl ?_
  refine X_getI fl_X7_98 h0 rfl dX7_ownerOfThing_13 ?_
  obtain ⟨q4, e5, hm⟩ := ob hm
  refine X_cS1 (kX7_ownerBy d (by omega) G e5) ml_X7_101 ms_X7_ownerBy rfl rfl (Nat.le_refl _) ⟨Nat.le_refl _, Nat.le_refl _⟩ (Nat.le_of_ble_eq_true rfl) dX7_ownerOfThing_16 ?_
  replace hm := Option.some.inj hm
  subst hm
  exact X_iret dX7_ownerOfThing_19 rfl
def mX7_strip_14 (I : Nat → Nat → Int32)  : Nat → (Nat → Nat → Int64) → Nat → Nat → Int32 → Int32 → Int32 → Int32 → Option (Int32 × (Nat → Nat → Int64))
  | 0, _, _, _, _, _, _, _ => none
  | f + 1, L, a0, a1, a2, a3, a4, a5 => (if inb a2 4 = true then (if (a4 + (I (a0 + 2) (ix a2))) ≤ a5 then (some (a3, L)) else (if inb a5 16 = true then (Option.bind (mX0_height (L (a1 + 1) (ix a5))) (fun q5 => (if inb a5 16 = true then (mX7_strip_14 I f (xu L (a1 + 1) (ix a5) (0 : Int64)) a0 a1 a2 (a3 + q5) a4 (a5 + 1)) else none))) else none)) else none)
set_option maxHeartbeats 400000 in
set_option maxRecDepth 100000 in
theorem kX7_strip_14 {E : xE} {B : Nat} {n : Nat} {K : Nat → Nat × Nat} {P : Nat → Nat → Nat} {I : Nat → Nat → Int32}   {q : Int32 × (Nat → Nat → Int64)} (d : Nat) (hd : 1 ≤ d) (G : GW K P)   : ∀ (f : Nat) (L : Nat → Nat → Int64) (a0 : Nat) (a1 : Nat) (a2 : Int32) (a3 : Int32) (a4 : Int32) (a5 : Int32), K a0 = (6, 0) → K a1 = (5, 0) → mX7_strip_14 I f L a0 a1 a2 a3 a4 a5 = some q → X E B d 0 0 yX7_strip cX7_strip 6 (some .int) (some (.int q.1), (n, K, P, I, q.2)) 14 [(0, .ref a0), (1, .ref a1), (2, .int a2), (3, .int a3), (4, .int a4), (5, .int a5)] [] 0 0 (n, K, P, I, L) := by
  obtain ⟨d, rfl⟩ : ∃ d0, d = d0 + 1 := ⟨d - 1, by omega⟩
  intro f
  induction f with
  | zero => intro _ _ _ _ _ _ _ _ _ hm; exact nomatch (show (none : Option (Int32 × (Nat → Nat → Int64))) = some q from hm)
  | succ f ih =>
    intro L a0 a1 a2 a3 a4 a5 h0 h1 hm
    rw [mX7_strip_14] at hm
    refine X_iload 5 dX7_strip_14 rfl ?_
    refine X_iload 4 dX7_strip_16 rfl ?_
    refine X_aload_n 0 dX7_strip_18 rfl rfl rfl ?_
    refine X_getPe fl_X7_15 h0 rfl (gl6_P10 G h0) dX7_strip_19 ?_
    refine X_iload_n 2 dX7_strip_22 rfl rfl ?_
    obtain ⟨g2, hm⟩ := og hm
    refine X_ialdJ (gl6_K2 G h0) g2 rfl dX7_strip_23 ?_
    refine X_iadd dX7_strip_24 ?_
    refine X_icmp_ge (tgt := 55) dX7_strip_25 (by decide) (fun c3 => ?_) (fun c3 => ?_)
    · replace hm := ip c3 hm
      refine X_iload_n 3 dX7_strip_55 rfl rfl ?_
      replace hm := Option.some.inj hm
      subst hm
      exact X_iret dX7_strip_56 rfl
    · replace hm := iq c3 hm
      refine X_iload_n 3 dX7_strip_28 rfl rfl ?_
      refine X_aload_n 1 dX7_strip_29 rfl rfl rfl ?_
      refine X_getPe fl_X7_75 h1 rfl (gl5_P0 G h1) dX7_strip_30 ?_
      refine X_iload 5 dX7_strip_33 rfl ?_
      obtain ⟨g4, hm⟩ := og hm
      refine X_laldJ (gl5_K1 G h1) g4 rfl dX7_strip_35 ?_
      obtain ⟨q5, e6, hm⟩ := ob hm
      refine X_cS1 (kX0_height d (by omega) G e6) ml_X7_118 ms_X0_height rfl rfl (Nat.le_refl _) ⟨Nat.le_refl _, Nat.le_refl _⟩ (Nat.le_of_ble_eq_true rfl) dX7_strip_36 ?_
      refine X_iadd dX7_strip_39 ?_
      refine X_istore_n (lv' := [(3, .int (a3 + q5)), (0, .ref a0), (1, .ref a1), (2, .int a2), (4, .int a4), (5, .int a5)]) dX7_strip_40 rfl (by decide) rfl ?_
      refine X_aload_n 2 dX7_strip_41 rfl rfl rfl ?_
      refine X_getPe fl_X7_75 h1 rfl (gl5_P0 G h1) dX7_strip_42 ?_
      refine X_iload 5 dX7_strip_45 rfl ?_
      refine X_lconst (v := (0 : Int64)) dX7_strip_47 (by decide) ?_
      obtain ⟨g7, hm⟩ := og hm
      refine X_lastJ (gl5_K1 G h1) g7 rfl dX7_strip_48 ?_
      refine X_iinc (lv' := [(5, .int (a5 + 1)), (3, .int (a3 + q5)), (0, .ref a0), (1, .ref a1), (2, .int a2), (4, .int a4)]) 5 dX7_strip_49 rfl rfl (by decide) rfl ?_
      refine X_goto (tgt := 14) dX7_strip_52 (by decide) ?_
      exact X_lv [2, 3, 4, 1, 5, 0] rfl (ih _ _ _ _ _ _ _ h0 h1 hm)
def mX7_strip (I : Nat → Nat → Int32) (L : Nat → Nat → Int64) (a0 : Nat) (a1 : Nat) (a2 : Int32) : Option (Int32 × (Nat → Nat → Int64)) := (if inb a2 4 = true then (mX7_strip_14 I xf L a0 a1 a2 (0 : Int32) (I (a0 + 1) (ix a2)) (I (a0 + 1) (ix a2))) else none)
set_option maxHeartbeats 400000 in
set_option maxRecDepth 100000 in
theorem kX7_strip {E : xE} {B : Nat} {n : Nat} {K : Nat → Nat × Nat} {P : Nat → Nat → Nat} {I : Nat → Nat → Int32} {L : Nat → Nat → Int64}  {a0 : Nat} {a1 : Nat} {a2 : Int32} {q : Int32 × (Nat → Nat → Int64)} (d : Nat) (hd : 1 ≤ d) (G : GW K P)  (h0 : K a0 = (6, 0)) (h1 : K a1 = (5, 0)) (hm : mX7_strip I L a0 a1 a2 = some q) : MX E B d 0 0 yX7_strip cX7_strip 6 (some .int) [.ref a0, .ref a1, .int a2] (n, K, P, I, L) (some (.int q.1), (n, K, P, I, q.2)) := by
  refine MX_of (lv := [(0, .ref a0), (1, .ref a1), (2, .int a2)]) (by decide +kernel) (Nat.le_of_ble_eq_true rfl) rfl ?_
  obtain ⟨d, rfl⟩ : ∃ d0, d = d0 + 1 := ⟨d - 1, by omega⟩
  unfold mX7_strip at hm
  refine X_iconst (v := (0 : Int32)) dX7_strip_0 (by decide) ?_
  refine X_istore_n (lv' := [(3, .int (0 : Int32)), (0, .ref a0), (1, .ref a1), (2, .int a2)]) dX7_strip_1 rfl (by decide) rfl ?_
  refine X_aload_n 1 dX7_strip_2 rfl rfl rfl ?_
  refine X_getPe fl_X7_9 h0 rfl (gl6_P9 G h0) dX7_strip_3 ?_
  refine X_iload_n 3 dX7_strip_6 rfl rfl ?_
  obtain ⟨g1, hm⟩ := og hm
  refine X_ialdJ (gl6_K1 G h0) g1 rfl dX7_strip_7 ?_
  refine X_istore (lv' := [(4, .int (I (a0 + 1) (ix a2))), (3, .int (0 : Int32)), (0, .ref a0), (1, .ref a1), (2, .int a2)]) dX7_strip_8 (by decide) rfl ?_
  refine X_iload 0 dX7_strip_10 rfl ?_
  refine X_istore (lv' := [(5, .int (I (a0 + 1) (ix a2))), (4, .int (I (a0 + 1) (ix a2))), (3, .int (0 : Int32)), (0, .ref a0), (1, .ref a1), (2, .int a2)]) dX7_strip_12 (by decide) rfl ?_
  refine X_lv [3, 4, 5, 2, 1, 0] rfl (kX7_strip_14 _ hd G xf _ _ _ _ _ _ _ h0 h1 hm)
def mX7_isOfOneColour_4 (I : Nat → Nat → Int32) (L : Nat → Nat → Int64)  : Nat → Nat → Nat → Int32 → Int32 → Option (Int32)
  | 0, _, _, _, _ => none
  | f + 1, a0, a1, a2, a3 => (if (I a0 6) ≤ a3 then (some (1 : Int32)) else (if inb a3 16 = true then (Option.bind (mX6_isBare I a1 (I (a0 + 4) (ix a3))) (fun q3 => (if q3 = 0 then (if inb a3 16 = true then (Option.bind (mX0_topPainter (L (a1 + 1) (ix a3))) (fun q7 => (if q7 = (-1 : Int32) then (some (0 : Int32)) else (if a2 = (-1 : Int32) then (if inb q7 4 = true then (mX7_isOfOneColour_4 I L f a0 a1 (I (a0 + 5) (ix q7)) (a3 + 1)) else none) else (if inb q7 4 = true then (if a2 = (I (a0 + 5) (ix q7)) then (if inb q7 4 = true then (mX7_isOfOneColour_4 I L f a0 a1 (I (a0 + 5) (ix q7)) (a3 + 1)) else none) else (some (0 : Int32))) else none))))) else none) else (mX7_isOfOneColour_4 I L f a0 a1 a2 (a3 + 1))))) else none))
set_option maxHeartbeats 400000 in
set_option maxRecDepth 100000 in
theorem kX7_isOfOneColour_4 {E : xE} {B : Nat} {n : Nat} {K : Nat → Nat × Nat} {P : Nat → Nat → Nat} {I : Nat → Nat → Int32} {L : Nat → Nat → Int64}   {q : Int32} (d : Nat) (hd : 1 ≤ d) (G : GW K P)   : ∀ (f : Nat) (a0 : Nat) (a1 : Nat) (a2 : Int32) (a3 : Int32), K a0 = (6, 0) → K a1 = (5, 0) → mX7_isOfOneColour_4 I L f a0 a1 a2 a3 = some q → X E B d 0 0 yX7_isOfOneColour cX7_isOfOneColour 5 (some .boolean) (some (.int q), (n, K, P, I, L)) 4 [(0, .ref a0), (1, .ref a1), (2, .int a2), (3, .int a3)] [] 0 0 (n, K, P, I, L) := by
  obtain ⟨d, rfl⟩ : ∃ d0, d = d0 + 1 := ⟨d - 1, by omega⟩
  intro f
  induction f with
  | zero => intro _ _ _ _ _ _ hm; exact nomatch (show (none : Option (Int32)) = some q from hm)
  | succ f ih =>
    intro a0 a1 a2 a3 h0 h1 hm
    rw [mX7_isOfOneColour_4] at hm
    refine X_iload_n 3 dX7_isOfOneColour_4 rfl rfl ?_
    refine X_aload_n 0 dX7_isOfOneColour_5 rfl rfl rfl ?_
    refine X_getI fl_X7_121 h0 rfl dX7_isOfOneColour_6 ?_
    refine X_icmp_ge (tgt := 74) dX7_isOfOneColour_9 (by decide) (fun c1 => ?_) (fun c1 => ?_)
    · replace hm := ip c1 hm
      refine X_iconst (v := (1 : Int32)) dX7_isOfOneColour_74 (by decide) ?_
      replace hm := Option.some.inj hm
      subst hm
      exact X_zret (v := (1 : Int32)) dX7_isOfOneColour_75 rfl (x_nz (Or.inr rfl))
    · replace hm := iq c1 hm
      refine X_aload_n 1 dX7_isOfOneColour_12 rfl rfl rfl ?_
      refine X_aload_n 0 dX7_isOfOneColour_13 rfl rfl rfl ?_
      refine X_getPe fl_X7_21 h0 rfl (gl6_P12 G h0) dX7_isOfOneColour_14 ?_
      refine X_iload_n 3 dX7_isOfOneColour_17 rfl rfl ?_
      obtain ⟨g2, hm⟩ := og hm
      refine X_ialdJ (gl6_K4 G h0) g2 rfl dX7_isOfOneColour_18 ?_
      obtain ⟨q3, e4, hm⟩ := ob hm
      refine X_cV1 (ci := 5) (kX6_isBare d (by omega) G h1 e4) ml_X7_105 mi_X6_isBare rfl cf_5 h1 rfl rfl (Nat.le_refl _) ⟨Nat.le_refl _, Nat.le_refl _⟩ (Nat.le_of_ble_eq_true rfl) dX7_isOfOneColour_19 ?_
      refine X_if_ne (tgt := 68) dX7_isOfOneColour_22 (by decide) (fun c5 => ?_) (fun c5 => ?_)
      · replace hm := iq c5 hm
        refine X_iinc (lv' := [(3, .int (a3 + 1)), (0, .ref a0), (1, .ref a1), (2, .int a2)]) 3 dX7_isOfOneColour_68 rfl rfl (by decide) rfl ?_
        refine X_goto (tgt := 4) dX7_isOfOneColour_71 (by decide) ?_
        exact X_lv [1, 2, 3, 0] rfl (ih _ _ _ _ h0 h1 hm)
      · replace hm := ip c5 hm
        refine X_aload_n 1 dX7_isOfOneColour_25 rfl rfl rfl ?_
        refine X_getPe fl_X7_75 h1 rfl (gl5_P0 G h1) dX7_isOfOneColour_26 ?_
        refine X_iload_n 3 dX7_isOfOneColour_29 rfl rfl ?_
        obtain ⟨g6, hm⟩ := og hm
        refine X_laldJ (gl5_K1 G h1) g6 rfl dX7_isOfOneColour_30 ?_
        obtain ⟨q7, e8, hm⟩ := ob hm
        refine X_cS1 (kX0_topPainter d (by omega) G e8) ml_X7_68 ms_X0_topPainter rfl rfl (Nat.le_refl _) ⟨Nat.le_refl _, Nat.le_refl _⟩ (Nat.le_of_ble_eq_true rfl) dX7_isOfOneColour_31 ?_
        refine X_istore (lv' := [(4, .int q7), (0, .ref a0), (1, .ref a1), (2, .int a2), (3, .int a3)]) dX7_isOfOneColour_34 (by decide) rfl ?_
        refine X_iload 0 dX7_isOfOneColour_36 rfl ?_
        refine X_iconst (v := (-1 : Int32)) dX7_isOfOneColour_38 (by decide) ?_
        refine X_icmp_eq (tgt := 58) dX7_isOfOneColour_39 (by decide) (fun c9 => ?_) (fun c9 => ?_)
        · replace hm := ip c9 hm
          refine X_iconst (v := (0 : Int32)) dX7_isOfOneColour_58 (by decide) ?_
          replace hm := Option.some.inj hm
          subst hm
          exact X_zret (v := (0 : Int32)) dX7_isOfOneColour_59 rfl (x_nz (Or.inl rfl))
        · replace hm := iq c9 hm
          refine X_iload_n 3 dX7_isOfOneColour_42 rfl rfl ?_
          refine X_iconst (v := (-1 : Int32)) dX7_isOfOneColour_43 (by decide) ?_
          refine X_icmp_eq (tgt := 60) dX7_isOfOneColour_44 (by decide) (fun c10 => ?_) (fun c10 => ?_)
          · replace hm := ip c10 hm
            refine X_aload_n 1 dX7_isOfOneColour_60 rfl rfl rfl ?_
            refine X_getPe fl_X7_24 h0 rfl (gl6_P13 G h0) dX7_isOfOneColour_61 ?_
            refine X_iload 0 dX7_isOfOneColour_64 rfl ?_
            obtain ⟨g11, hm⟩ := og hm
            refine X_ialdJ (gl6_K5 G h0) g11 rfl dX7_isOfOneColour_66 ?_
            refine X_istore_n (lv' := [(2, .int (I (a0 + 5) (ix q7))), (4, .int q7), (0, .ref a0), (1, .ref a1), (3, .int a3)]) dX7_isOfOneColour_67 rfl (by decide) rfl ?_
            refine X_iinc (lv' := [(3, .int (a3 + 1)), (2, .int (I (a0 + 5) (ix q7))), (4, .int q7), (0, .ref a0), (1, .ref a1)]) 4 dX7_isOfOneColour_68 rfl rfl (by decide) rfl ?_
            refine X_goto (tgt := 4) dX7_isOfOneColour_71 (by decide) ?_
            exact X_lv [3, 4, 1, 0] rfl (ih _ _ _ _ h0 h1 hm)
          · replace hm := iq c10 hm
            refine X_iload_n 3 dX7_isOfOneColour_47 rfl rfl ?_
            refine X_aload_n 1 dX7_isOfOneColour_48 rfl rfl rfl ?_
            refine X_getPe fl_X7_24 h0 rfl (gl6_P13 G h0) dX7_isOfOneColour_49 ?_
            refine X_iload 0 dX7_isOfOneColour_52 rfl ?_
            obtain ⟨g12, hm⟩ := og hm
            refine X_ialdJ (gl6_K5 G h0) g12 rfl dX7_isOfOneColour_54 ?_
            refine X_icmp_eq (tgt := 60) dX7_isOfOneColour_55 (by decide) (fun c13 => ?_) (fun c13 => ?_)
            · replace hm := ip c13 hm
              refine X_aload_n 1 dX7_isOfOneColour_60 rfl rfl rfl ?_
              refine X_getPe fl_X7_24 h0 rfl (gl6_P13 G h0) dX7_isOfOneColour_61 ?_
              refine X_iload 0 dX7_isOfOneColour_64 rfl ?_
              obtain ⟨g14, hm⟩ := og hm
              refine X_ialdJ (gl6_K5 G h0) g14 rfl dX7_isOfOneColour_66 ?_
              refine X_istore_n (lv' := [(2, .int (I (a0 + 5) (ix q7))), (4, .int q7), (0, .ref a0), (1, .ref a1), (3, .int a3)]) dX7_isOfOneColour_67 rfl (by decide) rfl ?_
              refine X_iinc (lv' := [(3, .int (a3 + 1)), (2, .int (I (a0 + 5) (ix q7))), (4, .int q7), (0, .ref a0), (1, .ref a1)]) 4 dX7_isOfOneColour_68 rfl rfl (by decide) rfl ?_
              refine X_goto (tgt := 4) dX7_isOfOneColour_71 (by decide) ?_
              exact X_lv [3, 4, 1, 0] rfl (ih _ _ _ _ h0 h1 hm)
            · replace hm := iq c13 hm
              refine X_iconst (v := (0 : Int32)) dX7_isOfOneColour_58 (by decide) ?_
              replace hm := Option.some.inj hm
              subst hm
              exact X_zret (v := (0 : Int32)) dX7_isOfOneColour_59 rfl (x_nz (Or.inl rfl))
def mX7_isOfOneColour (I : Nat → Nat → Int32) (L : Nat → Nat → Int64) (a0 : Nat) (a1 : Nat) : Option (Int32) := (mX7_isOfOneColour_4 I L xf a0 a1 (-1 : Int32) (0 : Int32))
set_option maxHeartbeats 400000 in
set_option maxRecDepth 100000 in
theorem kX7_isOfOneColour {E : xE} {B : Nat} {n : Nat} {K : Nat → Nat × Nat} {P : Nat → Nat → Nat} {I : Nat → Nat → Int32} {L : Nat → Nat → Int64}  {a0 : Nat} {a1 : Nat} {q : Int32} (d : Nat) (hd : 1 ≤ d) (G : GW K P)  (h0 : K a0 = (6, 0)) (h1 : K a1 = (5, 0)) (hm : mX7_isOfOneColour I L a0 a1 = some q) : MX E B d 0 0 yX7_isOfOneColour cX7_isOfOneColour 5 (some .boolean) [.ref a0, .ref a1] (n, K, P, I, L) (some (.int q), (n, K, P, I, L)) := by
  refine MX_of (lv := [(0, .ref a0), (1, .ref a1)]) (by decide +kernel) (Nat.le_of_ble_eq_true rfl) rfl ?_
  obtain ⟨d, rfl⟩ : ∃ d0, d = d0 + 1 := ⟨d - 1, by omega⟩
  unfold mX7_isOfOneColour at hm
  refine X_iconst (v := (-1 : Int32)) dX7_isOfOneColour_0 (by decide) ?_
  refine X_istore_n (lv' := [(2, .int (-1 : Int32)), (0, .ref a0), (1, .ref a1)]) dX7_isOfOneColour_1 rfl (by decide) rfl ?_
  refine X_iconst (v := (0 : Int32)) dX7_isOfOneColour_2 (by decide) ?_
  refine X_istore_n (lv' := [(3, .int (0 : Int32)), (2, .int (-1 : Int32)), (0, .ref a0), (1, .ref a1)]) dX7_isOfOneColour_3 rfl (by decide) rfl ?_
  refine X_lv [2, 3, 1, 0] rfl (kX7_isOfOneColour_4 _ hd G xf _ _ _ _ h0 h1 hm)
def mX8_beginsClause  (a0 : Int32) : Option (Int32) := (if a0 = (0 : Int32) then (some (1 : Int32)) else (if a0 = (1 : Int32) then (some (0 : Int32)) else (if a0 = (2 : Int32) then (some (1 : Int32)) else (if a0 = (3 : Int32) then (some (0 : Int32)) else (if a0 = (4 : Int32) then (some (0 : Int32)) else (if a0 = (5 : Int32) then (some (0 : Int32)) else (if a0 = (6 : Int32) then (some (0 : Int32)) else (if a0 = (7 : Int32) then (some (0 : Int32)) else (if a0 = (8 : Int32) then (some (0 : Int32)) else (if a0 = (9 : Int32) then (some (0 : Int32)) else (if a0 = (10 : Int32) then (some (0 : Int32)) else (if a0 = (11 : Int32) then (some (0 : Int32)) else (if a0 = (12 : Int32) then (some (1 : Int32)) else (if a0 = (13 : Int32) then (some (1 : Int32)) else (if a0 = (14 : Int32) then (some (1 : Int32)) else (if a0 = (15 : Int32) then (some (1 : Int32)) else (if a0 = (16 : Int32) then (some (1 : Int32)) else (some (0 : Int32)))))))))))))))))))
set_option maxHeartbeats 400000 in
set_option maxRecDepth 100000 in
theorem kX8_beginsClause {E : xE} {B : Nat} {n : Nat} {K : Nat → Nat × Nat} {P : Nat → Nat → Nat} {I : Nat → Nat → Int32} {L : Nat → Nat → Int64}  {a0 : Int32} {q : Int32} (d : Nat) (hd : 0 ≤ d) (G : GW K P)   (hm : mX8_beginsClause a0 = some q) : MX E B d 0 0 yX8_beginsClause cX8_beginsClause 1 (some .boolean) [.int a0] (n, K, P, I, L) (some (.int q), (n, K, P, I, L)) := by
  refine MX_of (lv := [(0, .int a0)]) (by decide +kernel) (Nat.le_of_ble_eq_true rfl) rfl ?_
  unfold mX8_beginsClause at hm
  refine X_iload_n 0 dX8_beginsClause_0 rfl rfl ?_
  rcases Decidable.em (a0 = (0 : Int32)) with c1 | c1
  · replace hm := ip c1 hm
    refine X_swK (off := 83) (tgt := 84) c1 dX8_beginsClause_1 (by decide) (by decide) (by decide) (by decide) ?_
    refine X_iconst (v := (1 : Int32)) dX8_beginsClause_84 (by decide) ?_
    replace hm := Option.some.inj hm
    subst hm
    exact X_zret (v := (1 : Int32)) dX8_beginsClause_85 rfl (x_nz (Or.inr rfl))
  · replace hm := iq c1 hm
    rcases Decidable.em (a0 = (1 : Int32)) with c2 | c2
    · replace hm := ip c2 hm
      refine X_swK (off := 85) (tgt := 86) c2 dX8_beginsClause_1 (by decide) (by decide) (by decide) (by decide) ?_
      refine X_iconst (v := (0 : Int32)) dX8_beginsClause_86 (by decide) ?_
      replace hm := Option.some.inj hm
      subst hm
      exact X_zret (v := (0 : Int32)) dX8_beginsClause_87 rfl (x_nz (Or.inl rfl))
    · replace hm := iq c2 hm
      rcases Decidable.em (a0 = (2 : Int32)) with c3 | c3
      · replace hm := ip c3 hm
        refine X_swK (off := 83) (tgt := 84) c3 dX8_beginsClause_1 (by decide) (by decide) (by decide) (by decide) ?_
        refine X_iconst (v := (1 : Int32)) dX8_beginsClause_84 (by decide) ?_
        replace hm := Option.some.inj hm
        subst hm
        exact X_zret (v := (1 : Int32)) dX8_beginsClause_85 rfl (x_nz (Or.inr rfl))
      · replace hm := iq c3 hm
        rcases Decidable.em (a0 = (3 : Int32)) with c4 | c4
        · replace hm := ip c4 hm
          refine X_swK (off := 85) (tgt := 86) c4 dX8_beginsClause_1 (by decide) (by decide) (by decide) (by decide) ?_
          refine X_iconst (v := (0 : Int32)) dX8_beginsClause_86 (by decide) ?_
          replace hm := Option.some.inj hm
          subst hm
          exact X_zret (v := (0 : Int32)) dX8_beginsClause_87 rfl (x_nz (Or.inl rfl))
        · replace hm := iq c4 hm
          rcases Decidable.em (a0 = (4 : Int32)) with c5 | c5
          · replace hm := ip c5 hm
            refine X_swK (off := 85) (tgt := 86) c5 dX8_beginsClause_1 (by decide) (by decide) (by decide) (by decide) ?_
            refine X_iconst (v := (0 : Int32)) dX8_beginsClause_86 (by decide) ?_
            replace hm := Option.some.inj hm
            subst hm
            exact X_zret (v := (0 : Int32)) dX8_beginsClause_87 rfl (x_nz (Or.inl rfl))
          · replace hm := iq c5 hm
            rcases Decidable.em (a0 = (5 : Int32)) with c6 | c6
            · replace hm := ip c6 hm
              refine X_swK (off := 85) (tgt := 86) c6 dX8_beginsClause_1 (by decide) (by decide) (by decide) (by decide) ?_
              refine X_iconst (v := (0 : Int32)) dX8_beginsClause_86 (by decide) ?_
              replace hm := Option.some.inj hm
              subst hm
              exact X_zret (v := (0 : Int32)) dX8_beginsClause_87 rfl (x_nz (Or.inl rfl))
            · replace hm := iq c6 hm
              rcases Decidable.em (a0 = (6 : Int32)) with c7 | c7
              · replace hm := ip c7 hm
                refine X_swK (off := 85) (tgt := 86) c7 dX8_beginsClause_1 (by decide) (by decide) (by decide) (by decide) ?_
                refine X_iconst (v := (0 : Int32)) dX8_beginsClause_86 (by decide) ?_
                replace hm := Option.some.inj hm
                subst hm
                exact X_zret (v := (0 : Int32)) dX8_beginsClause_87 rfl (x_nz (Or.inl rfl))
              · replace hm := iq c7 hm
                rcases Decidable.em (a0 = (7 : Int32)) with c8 | c8
                · replace hm := ip c8 hm
                  refine X_swK (off := 85) (tgt := 86) c8 dX8_beginsClause_1 (by decide) (by decide) (by decide) (by decide) ?_
                  refine X_iconst (v := (0 : Int32)) dX8_beginsClause_86 (by decide) ?_
                  replace hm := Option.some.inj hm
                  subst hm
                  exact X_zret (v := (0 : Int32)) dX8_beginsClause_87 rfl (x_nz (Or.inl rfl))
                · replace hm := iq c8 hm
                  rcases Decidable.em (a0 = (8 : Int32)) with c9 | c9
                  · replace hm := ip c9 hm
                    refine X_swK (off := 85) (tgt := 86) c9 dX8_beginsClause_1 (by decide) (by decide) (by decide) (by decide) ?_
                    refine X_iconst (v := (0 : Int32)) dX8_beginsClause_86 (by decide) ?_
                    replace hm := Option.some.inj hm
                    subst hm
                    exact X_zret (v := (0 : Int32)) dX8_beginsClause_87 rfl (x_nz (Or.inl rfl))
                  · replace hm := iq c9 hm
                    rcases Decidable.em (a0 = (9 : Int32)) with c10 | c10
                    · replace hm := ip c10 hm
                      refine X_swK (off := 85) (tgt := 86) c10 dX8_beginsClause_1 (by decide) (by decide) (by decide) (by decide) ?_
                      refine X_iconst (v := (0 : Int32)) dX8_beginsClause_86 (by decide) ?_
                      replace hm := Option.some.inj hm
                      subst hm
                      exact X_zret (v := (0 : Int32)) dX8_beginsClause_87 rfl (x_nz (Or.inl rfl))
                    · replace hm := iq c10 hm
                      rcases Decidable.em (a0 = (10 : Int32)) with c11 | c11
                      · replace hm := ip c11 hm
                        refine X_swK (off := 85) (tgt := 86) c11 dX8_beginsClause_1 (by decide) (by decide) (by decide) (by decide) ?_
                        refine X_iconst (v := (0 : Int32)) dX8_beginsClause_86 (by decide) ?_
                        replace hm := Option.some.inj hm
                        subst hm
                        exact X_zret (v := (0 : Int32)) dX8_beginsClause_87 rfl (x_nz (Or.inl rfl))
                      · replace hm := iq c11 hm
                        rcases Decidable.em (a0 = (11 : Int32)) with c12 | c12
                        · replace hm := ip c12 hm
                          refine X_swK (off := 85) (tgt := 86) c12 dX8_beginsClause_1 (by decide) (by decide) (by decide) (by decide) ?_
                          refine X_iconst (v := (0 : Int32)) dX8_beginsClause_86 (by decide) ?_
                          replace hm := Option.some.inj hm
                          subst hm
                          exact X_zret (v := (0 : Int32)) dX8_beginsClause_87 rfl (x_nz (Or.inl rfl))
                        · replace hm := iq c12 hm
                          rcases Decidable.em (a0 = (12 : Int32)) with c13 | c13
                          · replace hm := ip c13 hm
                            refine X_swK (off := 83) (tgt := 84) c13 dX8_beginsClause_1 (by decide) (by decide) (by decide) (by decide) ?_
                            refine X_iconst (v := (1 : Int32)) dX8_beginsClause_84 (by decide) ?_
                            replace hm := Option.some.inj hm
                            subst hm
                            exact X_zret (v := (1 : Int32)) dX8_beginsClause_85 rfl (x_nz (Or.inr rfl))
                          · replace hm := iq c13 hm
                            rcases Decidable.em (a0 = (13 : Int32)) with c14 | c14
                            · replace hm := ip c14 hm
                              refine X_swK (off := 83) (tgt := 84) c14 dX8_beginsClause_1 (by decide) (by decide) (by decide) (by decide) ?_
                              refine X_iconst (v := (1 : Int32)) dX8_beginsClause_84 (by decide) ?_
                              replace hm := Option.some.inj hm
                              subst hm
                              exact X_zret (v := (1 : Int32)) dX8_beginsClause_85 rfl (x_nz (Or.inr rfl))
                            · replace hm := iq c14 hm
                              rcases Decidable.em (a0 = (14 : Int32)) with c15 | c15
                              · replace hm := ip c15 hm
                                refine X_swK (off := 83) (tgt := 84) c15 dX8_beginsClause_1 (by decide) (by decide) (by decide) (by decide) ?_
                                refine X_iconst (v := (1 : Int32)) dX8_beginsClause_84 (by decide) ?_
                                replace hm := Option.some.inj hm
                                subst hm
                                exact X_zret (v := (1 : Int32)) dX8_beginsClause_85 rfl (x_nz (Or.inr rfl))
                              · replace hm := iq c15 hm
                                rcases Decidable.em (a0 = (15 : Int32)) with c16 | c16
                                · replace hm := ip c16 hm
                                  refine X_swK (off := 83) (tgt := 84) c16 dX8_beginsClause_1 (by decide) (by decide) (by decide) (by decide) ?_
                                  refine X_iconst (v := (1 : Int32)) dX8_beginsClause_84 (by decide) ?_
                                  replace hm := Option.some.inj hm
                                  subst hm
                                  exact X_zret (v := (1 : Int32)) dX8_beginsClause_85 rfl (x_nz (Or.inr rfl))
                                · replace hm := iq c16 hm
                                  rcases Decidable.em (a0 = (16 : Int32)) with c17 | c17
                                  · replace hm := ip c17 hm
                                    refine X_swK (off := 83) (tgt := 84) c17 dX8_beginsClause_1 (by decide) (by decide) (by decide) (by decide) ?_
                                    refine X_iconst (v := (1 : Int32)) dX8_beginsClause_84 (by decide) ?_
                                    replace hm := Option.some.inj hm
                                    subst hm
                                    exact X_zret (v := (1 : Int32)) dX8_beginsClause_85 rfl (x_nz (Or.inr rfl))
                                  · replace hm := iq c17 hm
                                    refine X_tableOut (tgt := 86) dX8_beginsClause_1 (sw_out 17 (by decide) (fun i hi => by
                                      have hi2 : i = 0 ∨ i = 1 ∨ i = 2 ∨ i = 3 ∨ i = 4 ∨ i = 5 ∨ i = 6 ∨ i = 7 ∨ i = 8 ∨ i = 9 ∨ i = 10 ∨ i = 11 ∨ i = 12 ∨ i = 13 ∨ i = 14 ∨ i = 15 ∨ i = 16 := by omega
                                      rcases hi2 with rfl | rfl | rfl | rfl | rfl | rfl | rfl | rfl | rfl | rfl | rfl | rfl | rfl | rfl | rfl | rfl | rfl
                                      · exact c1
                                      · exact c2
                                      · exact c3
                                      · exact c4
                                      · exact c5
                                      · exact c6
                                      · exact c7
                                      · exact c8
                                      · exact c9
                                      · exact c10
                                      · exact c11
                                      · exact c12
                                      · exact c13
                                      · exact c14
                                      · exact c15
                                      · exact c16
                                      · exact c17)) (by decide) ?_
                                    refine X_iconst (v := (0 : Int32)) dX8_beginsClause_86 (by decide) ?_
                                    replace hm := Option.some.inj hm
                                    subst hm
                                    exact X_zret (v := (0 : Int32)) dX8_beginsClause_87 rfl (x_nz (Or.inl rfl))
def mX8_isFullOf (I : Nat → Nat → Int32) (a0 : Nat) (a1 : Int32) : Option (Int32) := (if a1 = (0 : Int32) then (if (I (a0 + 1) 7) < (4 : Int32) then (some (0 : Int32)) else (some (1 : Int32))) else (if a1 = (2 : Int32) then (if (I (a0 + 1) 5) < (4 : Int32) then (some (0 : Int32)) else (some (1 : Int32))) else (if a1 = (12 : Int32) then (if (I (a0 + 1) 8) < (5 : Int32) then (some (0 : Int32)) else (some (1 : Int32))) else (if a1 = (16 : Int32) then (if (I (a0 + 1) 4) = 0 ∨ (I (a0 + 1) 4) = 1 then (some (I (a0 + 1) 4)) else none) else (some (0 : Int32))))))
set_option maxHeartbeats 400000 in
set_option maxRecDepth 100000 in
theorem kX8_isFullOf {E : xE} {B : Nat} {n : Nat} {K : Nat → Nat × Nat} {P : Nat → Nat → Nat} {I : Nat → Nat → Int32} {L : Nat → Nat → Int64}  {a0 : Nat} {a1 : Int32} {q : Int32} (d : Nat) (hd : 0 ≤ d) (G : GW K P)  (h0 : K a0 = (7, 0)) (hm : mX8_isFullOf I a0 a1 = some q) : MX E B d 0 0 yX8_isFullOf cX8_isFullOf 2 (some .boolean) [.ref a0, .int a1] (n, K, P, I, L) (some (.int q), (n, K, P, I, L)) := by
  refine MX_of (lv := [(0, .ref a0), (1, .int a1)]) (by decide +kernel) (Nat.le_of_ble_eq_true rfl) rfl ?_
  unfold mX8_isFullOf at hm
  refine X_iload_n 1 dX8_isFullOf_0 rfl rfl ?_
  rcases Decidable.em (a1 = (0 : Int32)) with c1 | c1
  · replace hm := ip c1 hm
    refine X_lkK (off := 60) (tgt := 61) c1 dX8_isFullOf_1 (by decide) (by decide) (by decide) ?_
    refine X_aload_n 0 dX8_isFullOf_61 rfl rfl rfl ?_
    refine X_getPe fl_X8_12 h0 rfl (gl7_P1 G h0) dX8_isFullOf_62 ?_
    refine X_getI fl_X8_51 (gl7_K1 G h0) rfl dX8_isFullOf_65 ?_
    refine X_iconst (v := (4 : Int32)) dX8_isFullOf_68 (by decide) ?_
    refine X_icmp_lt (tgt := 76) dX8_isFullOf_69 (by decide) (fun c2 => ?_) (fun c2 => ?_)
    · replace hm := ip c2 hm
      refine X_iconst (v := (0 : Int32)) dX8_isFullOf_76 (by decide) ?_
      replace hm := Option.some.inj hm
      subst hm
      exact X_zret (v := (0 : Int32)) dX8_isFullOf_77 rfl (x_nz (Or.inl rfl))
    · replace hm := iq c2 hm
      refine X_iconst (v := (1 : Int32)) dX8_isFullOf_72 (by decide) ?_
      refine X_goto (tgt := 77) dX8_isFullOf_73 (by decide) ?_
      replace hm := Option.some.inj hm
      subst hm
      exact X_zret (v := (1 : Int32)) dX8_isFullOf_77 rfl (x_nz (Or.inr rfl))
  · replace hm := iq c1 hm
    rcases Decidable.em (a1 = (2 : Int32)) with c3 | c3
    · replace hm := ip c3 hm
      refine X_lkK (off := 43) (tgt := 44) c3 dX8_isFullOf_1 (by decide) (by decide) (by decide) ?_
      refine X_aload_n 0 dX8_isFullOf_44 rfl rfl rfl ?_
      refine X_getPe fl_X8_12 h0 rfl (gl7_P1 G h0) dX8_isFullOf_45 ?_
      refine X_getI fl_X8_47 (gl7_K1 G h0) rfl dX8_isFullOf_48 ?_
      refine X_iconst (v := (4 : Int32)) dX8_isFullOf_51 (by decide) ?_
      refine X_icmp_lt (tgt := 59) dX8_isFullOf_52 (by decide) (fun c4 => ?_) (fun c4 => ?_)
      · replace hm := ip c4 hm
        refine X_iconst (v := (0 : Int32)) dX8_isFullOf_59 (by decide) ?_
        replace hm := Option.some.inj hm
        subst hm
        exact X_zret (v := (0 : Int32)) dX8_isFullOf_60 rfl (x_nz (Or.inl rfl))
      · replace hm := iq c4 hm
        refine X_iconst (v := (1 : Int32)) dX8_isFullOf_55 (by decide) ?_
        refine X_goto (tgt := 60) dX8_isFullOf_56 (by decide) ?_
        replace hm := Option.some.inj hm
        subst hm
        exact X_zret (v := (1 : Int32)) dX8_isFullOf_60 rfl (x_nz (Or.inr rfl))
    · replace hm := iq c3 hm
      rcases Decidable.em (a1 = (12 : Int32)) with c5 | c5
      · replace hm := ip c5 hm
        refine X_lkK (off := 77) (tgt := 78) c5 dX8_isFullOf_1 (by decide) (by decide) (by decide) ?_
        refine X_aload_n 0 dX8_isFullOf_78 rfl rfl rfl ?_
        refine X_getPe fl_X8_12 h0 rfl (gl7_P1 G h0) dX8_isFullOf_79 ?_
        refine X_getI fl_X8_54 (gl7_K1 G h0) rfl dX8_isFullOf_82 ?_
        refine X_iconst (v := (5 : Int32)) dX8_isFullOf_85 (by decide) ?_
        refine X_icmp_lt (tgt := 93) dX8_isFullOf_86 (by decide) (fun c6 => ?_) (fun c6 => ?_)
        · replace hm := ip c6 hm
          refine X_iconst (v := (0 : Int32)) dX8_isFullOf_93 (by decide) ?_
          replace hm := Option.some.inj hm
          subst hm
          exact X_zret (v := (0 : Int32)) dX8_isFullOf_94 rfl (x_nz (Or.inl rfl))
        · replace hm := iq c6 hm
          refine X_iconst (v := (1 : Int32)) dX8_isFullOf_89 (by decide) ?_
          refine X_goto (tgt := 94) dX8_isFullOf_90 (by decide) ?_
          replace hm := Option.some.inj hm
          subst hm
          exact X_zret (v := (1 : Int32)) dX8_isFullOf_94 rfl (x_nz (Or.inr rfl))
      · replace hm := iq c5 hm
        rcases Decidable.em (a1 = (16 : Int32)) with c7 | c7
        · replace hm := ip c7 hm
          refine X_lkK (off := 94) (tgt := 95) c7 dX8_isFullOf_1 (by decide) (by decide) (by decide) ?_
          refine X_aload_n 0 dX8_isFullOf_95 rfl rfl rfl ?_
          refine X_getPe fl_X8_12 h0 rfl (gl7_P1 G h0) dX8_isFullOf_96 ?_
          refine X_getI fl_X8_57 (gl7_K1 G h0) rfl dX8_isFullOf_99 ?_
          obtain ⟨g8, hm⟩ := og hm
          replace hm := Option.some.inj hm
          subst hm
          exact X_zret dX8_isFullOf_102 rfl (x_nz g8)
        · replace hm := iq c7 hm
          refine X_lookup (off := 102) (tgt := 103) dX8_isFullOf_1 (by decide) (lk_out _ _ (fun v hv => by
            simp only [List.map_cons, List.map_nil, List.mem_cons, List.not_mem_nil, or_false] at hv
            rcases hv with rfl | rfl | rfl | rfl
            · exact lk_ne c1 (by decide)
            · exact lk_ne c3 (by decide)
            · exact lk_ne c5 (by decide)
            · exact lk_ne c7 (by decide))) (by decide) ?_
          refine X_iconst (v := (0 : Int32)) dX8_isFullOf_103 (by decide) ?_
          replace hm := Option.some.inj hm
          subst hm
          exact X_zret (v := (0 : Int32)) dX8_isFullOf_104 rfl (x_nz (Or.inl rfl))
def mX9_takeNumber_32  (I : Nat → Nat → Int32) : Option (Int32 × (Nat → Nat → Int32)) := (Option.bind (mX9_fail I (1 : Int32)) (fun q7 => (some ((-1 : Int32), q7.2))))
set_option maxHeartbeats 400000 in
set_option maxRecDepth 100000 in
theorem kX9_takeNumber_32 {E : xE} {B : Nat} {n : Nat} {K : Nat → Nat × Nat} {P : Nat → Nat → Nat} {I : Nat → Nat → Int32} {L : Nat → Nat → Int64}    {q : Int32 × (Nat → Nat → Int32)} (d : Nat) (hd : 1 ≤ d) (G : GW K P)    (hm : mX9_takeNumber_32 I = some q) : X E B d 0 0 yX9_takeNumber cX9_takeNumber 4 (some .int) (some (.int q.1), (n, K, P, q.2, L)) 32 [(0, .ref 3)] [] 0 0 (n, K, P, I, L) := by
  obtain ⟨d, rfl⟩ : ∃ d0, d = d0 + 1 := ⟨d - 1, by omega⟩
  unfold mX9_takeNumber_32 at hm
  refine X_aload_n 0 dX9_takeNumber_32 rfl rfl rfl ?_
  refine X_iconst (v := (1 : Int32)) dX9_takeNumber_33 (by decide) ?_
  obtain ⟨q7, e8, hm⟩ := ob hm
  refine X_cV1 (ci := 8) (kX9_fail d (by omega) G e8) ml_X9_86 mi_X9_fail rfl cf_8 (g_K3 G) rfl rfl (Nat.le_refl _) ⟨Nat.le_refl _, Nat.le_refl _⟩ (Nat.le_of_ble_eq_true rfl) dX9_takeNumber_34 ?_
  refine X_pop dX9_takeNumber_37 rfl ?_
  refine X_iconst (v := (-1 : Int32)) dX9_takeNumber_38 (by decide) ?_
  replace hm := Option.some.inj hm
  subst hm
  exact X_iret dX9_takeNumber_39 rfl
def mX9_takeNumber  (I : Nat → Nat → Int32) (a1 : Int32) (a2 : Int32) : Option (Int32 × (Nat → Nat → Int32)) := (Option.bind (mX9_kind I) (fun q1 => (if q1 = (35 : Int32) then (Option.bind (mX9_number I) (fun q4 => (if q4 < a1 then (mX9_takeNumber_32 I) else (if q4 ≤ a2 then (Option.bind (mX9_step I) (fun q10 => (some (q4, q10)))) else (mX9_takeNumber_32 I))))) else (Option.bind (mX9_fail I (0 : Int32)) (fun q12 => (some ((-1 : Int32), q12.2)))))))
set_option maxHeartbeats 400000 in
set_option maxRecDepth 100000 in
theorem kX9_takeNumber {E : xE} {B : Nat} {n : Nat} {K : Nat → Nat × Nat} {P : Nat → Nat → Nat} {I : Nat → Nat → Int32} {L : Nat → Nat → Int64}  {a1 : Int32} {a2 : Int32} {q : Int32 × (Nat → Nat → Int32)} (d : Nat) (hd : 1 ≤ d) (G : GW K P)   (hm : mX9_takeNumber I a1 a2 = some q) : MX E B d 0 0 yX9_takeNumber cX9_takeNumber 4 (some .int) [.ref 3, .int a1, .int a2] (n, K, P, I, L) (some (.int q.1), (n, K, P, q.2, L)) := by
  refine MX_of (lv := [(0, .ref 3), (1, .int a1), (2, .int a2)]) (by decide +kernel) (Nat.le_of_ble_eq_true rfl) rfl ?_
  obtain ⟨d, rfl⟩ : ∃ d0, d = d0 + 1 := ⟨d - 1, by omega⟩
  unfold mX9_takeNumber at hm
  refine X_aload_n 0 dX9_takeNumber_0 rfl rfl rfl ?_
  obtain ⟨q1, e2, hm⟩ := ob hm
  refine X_cV1 (ci := 8) (kX9_kind d (by omega) G e2) ml_X9_83 mi_X9_kind rfl cf_8 (g_K3 G) rfl rfl (Nat.le_refl _) ⟨Nat.le_refl _, Nat.le_refl _⟩ (Nat.le_of_ble_eq_true rfl) dX9_takeNumber_1 ?_
  refine X_bipush (v := (35 : Int32)) dX9_takeNumber_4 (by decide) ?_
  refine X_icmp_eq (tgt := 17) dX9_takeNumber_6 (by decide) (fun c3 => ?_) (fun c3 => ?_)
  · replace hm := ip c3 hm
    refine X_aload_n 0 dX9_takeNumber_17 rfl rfl rfl ?_
    obtain ⟨q4, e5, hm⟩ := ob hm
    refine X_cV1 (ci := 8) (kX9_number d (by omega) G e5) ml_X9_90 mi_X9_number rfl cf_8 (g_K3 G) rfl rfl (Nat.le_refl _) ⟨Nat.le_refl _, Nat.le_refl _⟩ (Nat.le_of_ble_eq_true rfl) dX9_takeNumber_18 ?_
    refine X_istore_n (lv' := [(3, .int q4), (0, .ref 3), (1, .int a1), (2, .int a2)]) dX9_takeNumber_21 rfl (by decide) rfl ?_
    refine X_iload_n 0 dX9_takeNumber_22 rfl rfl ?_
    refine X_iload_n 2 dX9_takeNumber_23 rfl rfl ?_
    refine X_icmp_lt (tgt := 32) dX9_takeNumber_24 (by decide) (fun c6 => ?_) (fun c6 => ?_)
    · replace hm := ip c6 hm
      exact X_lv [1] rfl (kX9_takeNumber_32 _ hd G hm)
    · replace hm := iq c6 hm
      refine X_iload_n 0 dX9_takeNumber_27 rfl rfl ?_
      refine X_iload_n 3 dX9_takeNumber_28 rfl rfl ?_
      refine X_icmp_le (tgt := 40) dX9_takeNumber_29 (by decide) (fun c9 => ?_) (fun c9 => ?_)
      · replace hm := ip c9 hm
        refine X_aload_n 1 dX9_takeNumber_40 rfl rfl rfl ?_
        obtain ⟨q10, e11, hm⟩ := ob hm
        refine X_cV0 (ci := 8) (kX9_step d (by omega) G e11) ml_X9_93 mi_X9_step rfl cf_8 (g_K3 G) rfl rfl (Nat.le_refl _) ⟨Nat.le_refl _, Nat.le_refl _⟩ (Nat.le_of_ble_eq_true rfl) dX9_takeNumber_41 ?_
        refine X_iload_n 0 dX9_takeNumber_44 rfl rfl ?_
        replace hm := Option.some.inj hm
        subst hm
        exact X_iret dX9_takeNumber_45 rfl
      · replace hm := iq c9 hm
        exact X_lv [1] rfl (kX9_takeNumber_32 _ hd G hm)
  · replace hm := iq c3 hm
    refine X_aload_n 0 dX9_takeNumber_9 rfl rfl rfl ?_
    refine X_iconst (v := (0 : Int32)) dX9_takeNumber_10 (by decide) ?_
    obtain ⟨q12, e13, hm⟩ := ob hm
    refine X_cV1 (ci := 8) (kX9_fail d (by omega) G e13) ml_X9_86 mi_X9_fail rfl cf_8 (g_K3 G) rfl rfl (Nat.le_refl _) ⟨Nat.le_refl _, Nat.le_refl _⟩ (Nat.le_of_ble_eq_true rfl) dX9_takeNumber_11 ?_
    refine X_pop dX9_takeNumber_14 rfl ?_
    refine X_iconst (v := (-1 : Int32)) dX9_takeNumber_15 (by decide) ?_
    replace hm := Option.some.inj hm
    subst hm
    exact X_iret dX9_takeNumber_16 rfl
def mX8_readHead  (I : Nat → Nat → Int32) (a0 : Nat) : Option (Int32 × (Nat → Nat → Int32)) := (Option.bind (mX9_takeNumber I (1 : Int32) (9 : Int32)) (fun q1 => (if ((xu q1.2 (a0 + 1) 1 q1.1) (a0 + 1) 1) = (-1 : Int32) then (some ((0 : Int32), (xu q1.2 (a0 + 1) 1 q1.1))) else (Option.bind (mX9_takeNumber (xu q1.2 (a0 + 1) 1 q1.1) (1 : Int32) (100 : Int32)) (fun q4 => (if ((xu q4.2 (a0 + 1) 2 q4.1) (a0 + 1) 2) = (-1 : Int32) then (some ((0 : Int32), (xu q4.2 (a0 + 1) 2 q4.1))) else (Option.bind (mX9_takeNumber (xu q4.2 (a0 + 1) 2 q4.1) (0 : Int32) (9 : Int32)) (fun q7 => (if ((xu q7.2 (a0 + 1) 3 q7.1) (a0 + 1) 3) = (-1 : Int32) then (some ((0 : Int32), (xu q7.2 (a0 + 1) 3 q7.1))) else (some ((1 : Int32), (xu q7.2 (a0 + 1) 3 q7.1))))))))))))
set_option maxHeartbeats 400000 in
set_option maxRecDepth 100000 in
theorem kX8_readHead {E : xE} {B : Nat} {n : Nat} {K : Nat → Nat × Nat} {P : Nat → Nat → Nat} {I : Nat → Nat → Int32} {L : Nat → Nat → Int64}  {a0 : Nat} {q : Int32 × (Nat → Nat → Int32)} (d : Nat) (hd : 2 ≤ d) (G : GW K P)  (h0 : K a0 = (7, 0)) (hm : mX8_readHead I a0 = some q) : MX E B d 0 0 yX8_readHead cX8_readHead 1 (some .boolean) [.ref a0] (n, K, P, I, L) (some (.int q.1), (n, K, P, q.2, L)) := by
  refine MX_of (lv := [(0, .ref a0)]) (by decide +kernel) (Nat.le_of_ble_eq_true rfl) rfl ?_
  obtain ⟨d, rfl⟩ : ∃ d0, d = d0 + 1 := ⟨d - 1, by omega⟩
  unfold mX8_readHead at hm
  refine X_aload_n 0 dX8_readHead_0 rfl rfl rfl ?_
  refine X_getPe fl_X8_12 h0 rfl (gl7_P1 G h0) dX8_readHead_1 ?_
  refine X_aload_n 0 dX8_readHead_4 rfl rfl rfl ?_
  refine X_getPe fl_X8_18 h0 rfl (gl7_P0 G h0) dX8_readHead_5 ?_
  refine X_iconst (v := (1 : Int32)) dX8_readHead_8 (by decide) ?_
  refine X_bipush (v := (9 : Int32)) dX8_readHead_9 (by decide) ?_
  obtain ⟨q1, e2, hm⟩ := ob hm
  refine X_cV1 (ci := 8) (kX9_takeNumber d (by omega) G e2) ml_X8_80 mi_X9_takeNumber rfl cf_8 (g_K3 G) rfl rfl (Nat.le_refl _) ⟨Nat.le_refl _, Nat.le_refl _⟩ (Nat.le_of_ble_eq_true rfl) dX8_readHead_11 ?_
  refine X_putI fl_X8_84 (gl7_K1 G h0) rfl rfl dX8_readHead_14 ?_
  refine X_aload_n 0 dX8_readHead_17 rfl rfl rfl ?_
  refine X_getPe fl_X8_12 h0 rfl (gl7_P1 G h0) dX8_readHead_18 ?_
  refine X_getI fl_X8_84 (gl7_K1 G h0) rfl dX8_readHead_21 ?_
  refine X_iconst (v := (-1 : Int32)) dX8_readHead_24 (by decide) ?_
  refine X_icmp_ne (tgt := 30) dX8_readHead_25 (by decide) (fun c3 => ?_) (fun c3 => ?_)
  · replace hm := iq c3 hm
    refine X_aload_n 0 dX8_readHead_30 rfl rfl rfl ?_
    refine X_getPe fl_X8_12 h0 rfl (gl7_P1 G h0) dX8_readHead_31 ?_
    refine X_aload_n 0 dX8_readHead_34 rfl rfl rfl ?_
    refine X_getPe fl_X8_18 h0 rfl (gl7_P0 G h0) dX8_readHead_35 ?_
    refine X_iconst (v := (1 : Int32)) dX8_readHead_38 (by decide) ?_
    refine X_bipush (v := (100 : Int32)) dX8_readHead_39 (by decide) ?_
    obtain ⟨q4, e5, hm⟩ := ob hm
    refine X_cV1 (ci := 8) (kX9_takeNumber d (by omega) G e5) ml_X8_80 mi_X9_takeNumber rfl cf_8 (g_K3 G) rfl rfl (Nat.le_refl _) ⟨Nat.le_refl _, Nat.le_refl _⟩ (Nat.le_of_ble_eq_true rfl) dX8_readHead_41 ?_
    refine X_putI fl_X8_87 (gl7_K1 G h0) rfl rfl dX8_readHead_44 ?_
    refine X_aload_n 0 dX8_readHead_47 rfl rfl rfl ?_
    refine X_getPe fl_X8_12 h0 rfl (gl7_P1 G h0) dX8_readHead_48 ?_
    refine X_getI fl_X8_87 (gl7_K1 G h0) rfl dX8_readHead_51 ?_
    refine X_iconst (v := (-1 : Int32)) dX8_readHead_54 (by decide) ?_
    refine X_icmp_ne (tgt := 60) dX8_readHead_55 (by decide) (fun c6 => ?_) (fun c6 => ?_)
    · replace hm := iq c6 hm
      refine X_aload_n 0 dX8_readHead_60 rfl rfl rfl ?_
      refine X_getPe fl_X8_12 h0 rfl (gl7_P1 G h0) dX8_readHead_61 ?_
      refine X_aload_n 0 dX8_readHead_64 rfl rfl rfl ?_
      refine X_getPe fl_X8_18 h0 rfl (gl7_P0 G h0) dX8_readHead_65 ?_
      refine X_iconst (v := (0 : Int32)) dX8_readHead_68 (by decide) ?_
      refine X_bipush (v := (9 : Int32)) dX8_readHead_69 (by decide) ?_
      obtain ⟨q7, e8, hm⟩ := ob hm
      refine X_cV1 (ci := 8) (kX9_takeNumber d (by omega) G e8) ml_X8_80 mi_X9_takeNumber rfl cf_8 (g_K3 G) rfl rfl (Nat.le_refl _) ⟨Nat.le_refl _, Nat.le_refl _⟩ (Nat.le_of_ble_eq_true rfl) dX8_readHead_71 ?_
      refine X_putI fl_X8_90 (gl7_K1 G h0) rfl rfl dX8_readHead_74 ?_
      refine X_aload_n 0 dX8_readHead_77 rfl rfl rfl ?_
      refine X_getPe fl_X8_12 h0 rfl (gl7_P1 G h0) dX8_readHead_78 ?_
      refine X_getI fl_X8_90 (gl7_K1 G h0) rfl dX8_readHead_81 ?_
      refine X_iconst (v := (-1 : Int32)) dX8_readHead_84 (by decide) ?_
      refine X_icmp_eq (tgt := 92) dX8_readHead_85 (by decide) (fun c9 => ?_) (fun c9 => ?_)
      · replace hm := ip c9 hm
        refine X_iconst (v := (0 : Int32)) dX8_readHead_92 (by decide) ?_
        replace hm := Option.some.inj hm
        subst hm
        exact X_zret (v := (0 : Int32)) dX8_readHead_93 rfl (x_nz (Or.inl rfl))
      · replace hm := iq c9 hm
        refine X_iconst (v := (1 : Int32)) dX8_readHead_88 (by decide) ?_
        refine X_goto (tgt := 93) dX8_readHead_89 (by decide) ?_
        replace hm := Option.some.inj hm
        subst hm
        exact X_zret (v := (1 : Int32)) dX8_readHead_93 rfl (x_nz (Or.inr rfl))
    · replace hm := ip c6 hm
      refine X_iconst (v := (0 : Int32)) dX8_readHead_58 (by decide) ?_
      replace hm := Option.some.inj hm
      subst hm
      exact X_zret (v := (0 : Int32)) dX8_readHead_59 rfl (x_nz (Or.inl rfl))
  · replace hm := ip c3 hm
    refine X_iconst (v := (0 : Int32)) dX8_readHead_28 (by decide) ?_
    replace hm := Option.some.inj hm
    subst hm
    exact X_zret (v := (0 : Int32)) dX8_readHead_29 rfl (x_nz (Or.inl rfl))
def mX8_readThing_102  (e133 : (Nat → Nat → Int32) → Nat → Int32 → Option (Int32 × (Nat → Nat → Int32))) : Nat → (Nat → Nat → Int32) → Nat → Int32 → Int32 → Int32 → Option (Int32 × (Nat → Nat → Int32))
  | 0, _, _, _, _, _ => none
  | f + 1, I, a0, a1, a3, a4 => (if ((I (a0 + 1) 6) + a1) ≤ a4 then (e133 I a0 a1) else (if inb a4 16 = true then (mX8_readThing_102 e133 f (xu I ((a0 + 1) + 4) (ix a4) a3) a0 a1 a3 (a4 + 1)) else none))
set_option maxHeartbeats 400000 in
set_option maxRecDepth 100000 in
theorem kX8_readThing_102 {E : xE} {B : Nat} {n : Nat} {K : Nat → Nat × Nat} {P : Nat → Nat → Nat} {L : Nat → Nat → Int64}  {e133 : (Nat → Nat → Int32) → Nat → Int32 → Option (Int32 × (Nat → Nat → Int32))} {q : Int32 × (Nat → Nat → Int32)} (d : Nat) (hd : 2 ≤ d) (G : GW K P)  (he133 : ∀ (I : Nat → Nat → Int32) (a0 : Nat) (a1 : Int32), K a0 = (7, 0) → e133 I a0 a1 = some q → X E B d 0 0 yX8_readThing cX8_readThing 5 (some .boolean) (some (.int q.1), (n, K, P, q.2, L)) 133 [(0, .ref a0), (1, .int a1)] [] 0 0 (n, K, P, I, L)) : ∀ (f : Nat) (I : Nat → Nat → Int32) (a0 : Nat) (a1 : Int32) (a3 : Int32) (a4 : Int32), K a0 = (7, 0) → mX8_readThing_102 e133 f I a0 a1 a3 a4 = some q → X E B d 0 0 yX8_readThing cX8_readThing 5 (some .boolean) (some (.int q.1), (n, K, P, q.2, L)) 102 [(0, .ref a0), (1, .int a1), (3, .int a3), (4, .int a4)] [] 0 0 (n, K, P, I, L) := by
  obtain ⟨d, rfl⟩ : ∃ d0, d = d0 + 1 := ⟨d - 1, by omega⟩
  intro f
  induction f with
  | zero => intro _ _ _ _ _ _ hm; exact nomatch (show (none : Option (Int32 × (Nat → Nat → Int32))) = some q from hm)
  | succ f ih =>
    intro I a0 a1 a3 a4 h0 hm
    rw [mX8_readThing_102] at hm
    refine X_iload 3 dX8_readThing_102 rfl ?_
    refine X_aload_n 0 dX8_readThing_104 rfl rfl rfl ?_
    refine X_getPe fl_X8_12 h0 rfl (gl7_P1 G h0) dX8_readThing_105 ?_
    refine X_getI fl_X8_93 (gl7_K1 G h0) rfl dX8_readThing_108 ?_
    refine X_iload_n 1 dX8_readThing_111 rfl rfl ?_
    refine X_iadd dX8_readThing_112 ?_
    refine X_icmp_ge (tgt := 133) dX8_readThing_113 (by decide) (fun c12 => ?_) (fun c12 => ?_)
    · replace hm := ip c12 hm
      exact X_lv [0, 1] rfl (he133 _ _ _ h0 hm)
    · replace hm := iq c12 hm
      refine X_aload_n 0 dX8_readThing_116 rfl rfl rfl ?_
      refine X_getPe fl_X8_12 h0 rfl (gl7_P1 G h0) dX8_readThing_117 ?_
      refine X_getPe fl_X8_111 (gl7_K1 G h0) rfl (gl6_P12 G (gl7_K1 G h0)) dX8_readThing_120 ?_
      refine X_iload 3 dX8_readThing_123 rfl ?_
      refine X_iload_n 2 dX8_readThing_125 rfl rfl ?_
      obtain ⟨g13, hm⟩ := og hm
      refine X_iastJ (gl6_K4 G (gl7_K1 G h0)) g13 rfl dX8_readThing_126 ?_
      refine X_iinc (lv' := [(4, .int (a4 + 1)), (0, .ref a0), (1, .int a1), (3, .int a3)]) 3 dX8_readThing_127 rfl rfl (by decide) rfl ?_
      refine X_goto (tgt := 102) dX8_readThing_130 (by decide) ?_
      exact X_lv [1, 2, 3, 0] rfl (ih _ _ _ _ _ h0 hm)
def mX8_readThing  (I : Nat → Nat → Int32) (a0 : Nat) : Option (Int32 × (Nat → Nat → Int32)) := (Option.bind (mJ9_min_7cf53 (6 : Int32) ((16 : Int32) - (I (a0 + 1) 6))) (fun q1 => (Option.bind (mX9_takeNumber I (1 : Int32) q1) (fun q3 => (if q3.1 = (-1 : Int32) then (some ((0 : Int32), q3.2)) else (Option.bind (mX9_takeNumber q3.2 (0 : Int32) (20 : Int32)) (fun q6 => (if q6.1 = (-1 : Int32) then (some ((0 : Int32), q6.2)) else (if inb (q6.2 (a0 + 1) 5) 4 = true then (if inb (q6.2 (a0 + 1) 5) 4 = true then (if inb (q6.2 (a0 + 1) 5) 4 = true then (mX8_readThing_102 (fun (I_14 : (Nat → Nat → Int32)) (a0_14 : Nat) (a1_14 : Int32) => (some ((1 : Int32), (xu (xu I_14 (a0_14 + 1) 6 ((I_14 (a0_14 + 1) 6) + a1_14)) (a0_14 + 1) 5 (((xu I_14 (a0_14 + 1) 6 ((I_14 (a0_14 + 1) 6) + a1_14)) (a0_14 + 1) 5) + (1 : Int32)))))) xf (xu (xu (xu q6.2 ((a0 + 1) + 1) (ix (q6.2 (a0 + 1) 5)) (q6.2 (a0 + 1) 6)) ((a0 + 1) + 2) (ix (q6.2 (a0 + 1) 5)) q3.1) ((a0 + 1) + 3) (ix (q6.2 (a0 + 1) 5)) q6.1) a0 q3.1 (q6.2 (a0 + 1) 5) ((xu (xu (xu q6.2 ((a0 + 1) + 1) (ix (q6.2 (a0 + 1) 5)) (q6.2 (a0 + 1) 6)) ((a0 + 1) + 2) (ix (q6.2 (a0 + 1) 5)) q3.1) ((a0 + 1) + 3) (ix (q6.2 (a0 + 1) 5)) q6.1) (a0 + 1) 6)) else none) else none) else none)))))))))
set_option maxHeartbeats 400000 in
set_option maxRecDepth 100000 in
theorem kX8_readThing {E : xE} {B : Nat} {n : Nat} {K : Nat → Nat × Nat} {P : Nat → Nat → Nat} {I : Nat → Nat → Int32} {L : Nat → Nat → Int64}  {a0 : Nat} {q : Int32 × (Nat → Nat → Int32)} (d : Nat) (hd : 2 ≤ d) (G : GW K P)  (h0 : K a0 = (7, 0)) (hm : mX8_readThing I a0 = some q) : MX E B d 0 0 yX8_readThing cX8_readThing 5 (some .boolean) [.ref a0] (n, K, P, I, L) (some (.int q.1), (n, K, P, q.2, L)) := by
  refine MX_of (lv := [(0, .ref a0)]) (by decide +kernel) (Nat.le_of_ble_eq_true rfl) rfl ?_
  obtain ⟨d, rfl⟩ : ∃ d0, d = d0 + 1 := ⟨d - 1, by omega⟩
  unfold mX8_readThing at hm
  refine X_aload_n 0 dX8_readThing_0 rfl rfl rfl ?_
  refine X_getPe fl_X8_18 h0 rfl (gl7_P0 G h0) dX8_readThing_1 ?_
  refine X_iconst (v := (1 : Int32)) dX8_readThing_4 (by decide) ?_
  refine X_bipush (v := (6 : Int32)) dX8_readThing_5 (by decide) ?_
  refine X_bipush (v := (16 : Int32)) dX8_readThing_7 (by decide) ?_
  refine X_aload_n 0 dX8_readThing_9 rfl rfl rfl ?_
  refine X_getPe fl_X8_12 h0 rfl (gl7_P1 G h0) dX8_readThing_10 ?_
  refine X_getI fl_X8_93 (gl7_K1 G h0) rfl dX8_readThing_13 ?_
  refine X_isub dX8_readThing_16 ?_
  obtain ⟨q1, e2, hm⟩ := ob hm
  refine X_cS1 (kJ9_min_7cf53 d (by omega) G e2) ml_X8_96 ms_J9_min_7cf53 rfl rfl (Nat.le_refl _) ⟨Nat.le_refl _, Nat.le_refl _⟩ (Nat.le_of_ble_eq_true rfl) dX8_readThing_17 ?_
  obtain ⟨q3, e4, hm⟩ := ob hm
  refine X_cV1 (ci := 8) (kX9_takeNumber d (by omega) G e4) ml_X8_80 mi_X9_takeNumber rfl cf_8 (g_K3 G) rfl rfl (Nat.le_refl _) ⟨Nat.le_refl _, Nat.le_refl _⟩ (Nat.le_of_ble_eq_true rfl) dX8_readThing_20 ?_
  refine X_istore_n (lv' := [(1, .int q3.1), (0, .ref a0)]) dX8_readThing_23 rfl (by decide) rfl ?_
  refine X_iload_n 0 dX8_readThing_24 rfl rfl ?_
  refine X_iconst (v := (-1 : Int32)) dX8_readThing_25 (by decide) ?_
  refine X_icmp_ne (tgt := 31) dX8_readThing_26 (by decide) (fun c5 => ?_) (fun c5 => ?_)
  · replace hm := iq c5 hm
    refine X_aload_n 1 dX8_readThing_31 rfl rfl rfl ?_
    refine X_getPe fl_X8_18 h0 rfl (gl7_P0 G h0) dX8_readThing_32 ?_
    refine X_iconst (v := (0 : Int32)) dX8_readThing_35 (by decide) ?_
    refine X_bipush (v := (20 : Int32)) dX8_readThing_36 (by decide) ?_
    obtain ⟨q6, e7, hm⟩ := ob hm
    refine X_cV1 (ci := 8) (kX9_takeNumber d (by omega) G e7) ml_X8_80 mi_X9_takeNumber rfl cf_8 (g_K3 G) rfl rfl (Nat.le_refl _) ⟨Nat.le_refl _, Nat.le_refl _⟩ (Nat.le_of_ble_eq_true rfl) dX8_readThing_38 ?_
    refine X_istore_n (lv' := [(2, .int q6.1), (1, .int q3.1), (0, .ref a0)]) dX8_readThing_41 rfl (by decide) rfl ?_
    refine X_iload_n 0 dX8_readThing_42 rfl rfl ?_
    refine X_iconst (v := (-1 : Int32)) dX8_readThing_43 (by decide) ?_
    refine X_icmp_ne (tgt := 49) dX8_readThing_44 (by decide) (fun c8 => ?_) (fun c8 => ?_)
    · replace hm := iq c8 hm
      refine X_aload_n 2 dX8_readThing_49 rfl rfl rfl ?_
      refine X_getPe fl_X8_12 h0 rfl (gl7_P1 G h0) dX8_readThing_50 ?_
      refine X_getI fl_X8_47 (gl7_K1 G h0) rfl dX8_readThing_53 ?_
      refine X_istore_n (lv' := [(3, .int (q6.2 (a0 + 1) 5)), (2, .int q6.1), (1, .int q3.1), (0, .ref a0)]) dX8_readThing_56 rfl (by decide) rfl ?_
      refine X_aload_n 3 dX8_readThing_57 rfl rfl rfl ?_
      refine X_getPe fl_X8_12 h0 rfl (gl7_P1 G h0) dX8_readThing_58 ?_
      refine X_getPe fl_X8_101 (gl7_K1 G h0) rfl (gl6_P9 G (gl7_K1 G h0)) dX8_readThing_61 ?_
      refine X_iload_n 0 dX8_readThing_64 rfl rfl ?_
      refine X_aload_n 3 dX8_readThing_65 rfl rfl rfl ?_
      refine X_getPe fl_X8_12 h0 rfl (gl7_P1 G h0) dX8_readThing_66 ?_
      refine X_getI fl_X8_93 (gl7_K1 G h0) rfl dX8_readThing_69 ?_
      obtain ⟨g9, hm⟩ := og hm
      refine X_iastJ (gl6_K1 G (gl7_K1 G h0)) g9 rfl dX8_readThing_72 ?_
      refine X_aload_n 3 dX8_readThing_73 rfl rfl rfl ?_
      refine X_getPe fl_X8_12 h0 rfl (gl7_P1 G h0) dX8_readThing_74 ?_
      refine X_getPe fl_X8_105 (gl7_K1 G h0) rfl (gl6_P10 G (gl7_K1 G h0)) dX8_readThing_77 ?_
      refine X_iload_n 0 dX8_readThing_80 rfl rfl ?_
      refine X_iload_n 2 dX8_readThing_81 rfl rfl ?_
      obtain ⟨g10, hm⟩ := og hm
      refine X_iastJ (gl6_K2 G (gl7_K1 G h0)) g10 rfl dX8_readThing_82 ?_
      refine X_aload_n 3 dX8_readThing_83 rfl rfl rfl ?_
      refine X_getPe fl_X8_12 h0 rfl (gl7_P1 G h0) dX8_readThing_84 ?_
      refine X_getPe fl_X8_108 (gl7_K1 G h0) rfl (gl6_P11 G (gl7_K1 G h0)) dX8_readThing_87 ?_
      refine X_iload_n 0 dX8_readThing_90 rfl rfl ?_
      refine X_iload_n 1 dX8_readThing_91 rfl rfl ?_
      obtain ⟨g11, hm⟩ := og hm
      refine X_iastJ (gl6_K3 G (gl7_K1 G h0)) g11 rfl dX8_readThing_92 ?_
      refine X_aload_n 3 dX8_readThing_93 rfl rfl rfl ?_
      refine X_getPe fl_X8_12 h0 rfl (gl7_P1 G h0) dX8_readThing_94 ?_
      refine X_getI fl_X8_93 (gl7_K1 G h0) rfl dX8_readThing_97 ?_
      refine X_istore (lv' := [(4, .int ((xu (xu (xu q6.2 ((a0 + 1) + 1) (ix (q6.2 (a0 + 1) 5)) (q6.2 (a0 + 1) 6)) ((a0 + 1) + 2) (ix (q6.2 (a0 + 1) 5)) q3.1) ((a0 + 1) + 3) (ix (q6.2 (a0 + 1) 5)) q6.1) (a0 + 1) 6)), (3, .int (q6.2 (a0 + 1) 5)), (2, .int q6.1), (1, .int q3.1), (0, .ref a0)]) dX8_readThing_100 (by decide) rfl ?_
      refine X_lv [4, 3, 1, 0] rfl (kX8_readThing_102 _ hd G (fun I_14 a0_14 a1_14 h0_14 hm => ?_) xf _ _ _ _ _ h0 hm)
      refine X_aload_n 0 dX8_readThing_133 rfl rfl rfl ?_
      refine X_getPe fl_X8_12 h0_14 rfl (gl7_P1 G h0_14) dX8_readThing_134 ?_
      refine X_dup dX8_readThing_137 rfl ?_
      refine X_getI fl_X8_93 (gl7_K1 G h0_14) rfl dX8_readThing_138 ?_
      refine X_iload_n 1 dX8_readThing_141 rfl rfl ?_
      refine X_iadd dX8_readThing_142 ?_
      refine X_putI fl_X8_93 (gl7_K1 G h0_14) rfl rfl dX8_readThing_143 ?_
      refine X_aload_n 0 dX8_readThing_146 rfl rfl rfl ?_
      refine X_getPe fl_X8_12 h0_14 rfl (gl7_P1 G h0_14) dX8_readThing_147 ?_
      refine X_dup dX8_readThing_150 rfl ?_
      refine X_getI fl_X8_47 (gl7_K1 G h0_14) rfl dX8_readThing_151 ?_
      refine X_iconst (v := (1 : Int32)) dX8_readThing_154 (by decide) ?_
      refine X_iadd dX8_readThing_155 ?_
      refine X_putI fl_X8_47 (gl7_K1 G h0_14) rfl rfl dX8_readThing_156 ?_
      refine X_iconst (v := (1 : Int32)) dX8_readThing_159 (by decide) ?_
      replace hm := Option.some.inj hm
      subst hm
      exact X_zret (v := (1 : Int32)) dX8_readThing_160 rfl (x_nz (Or.inr rfl))
    · replace hm := ip c8 hm
      refine X_iconst (v := (0 : Int32)) dX8_readThing_47 (by decide) ?_
      replace hm := Option.some.inj hm
      subst hm
      exact X_zret (v := (0 : Int32)) dX8_readThing_48 rfl (x_nz (Or.inl rfl))
  · replace hm := ip c5 hm
    refine X_iconst (v := (0 : Int32)) dX8_readThing_29 (by decide) ?_
    replace hm := Option.some.inj hm
    subst hm
    exact X_zret (v := (0 : Int32)) dX8_readThing_30 rfl (x_nz (Or.inl rfl))
def mX8_readPainter  (I : Nat → Nat → Int32) (a0 : Nat) : Option (Int32 × (Nat → Nat → Int32)) := (Option.bind (mX9_takeNumber I (0 : Int32) (8 : Int32)) (fun q1 => (if q1.1 = (-1 : Int32) then (some ((0 : Int32), q1.2)) else (Option.bind (mX9_takeNumber q1.2 (0 : Int32) (99 : Int32)) (fun q4 => (if q4.1 = (-1 : Int32) then (some ((0 : Int32), q4.2)) else (if inb (q4.2 (a0 + 1) 7) 4 = true then (if inb ((xu q4.2 ((a0 + 1) + 5) (ix (q4.2 (a0 + 1) 7)) q1.1) (a0 + 1) 7) 4 = true then (some ((1 : Int32), (xu (xu (xu q4.2 ((a0 + 1) + 5) (ix (q4.2 (a0 + 1) 7)) q1.1) (((a0 + 1) + 8) + 2) (ix ((xu q4.2 ((a0 + 1) + 5) (ix (q4.2 (a0 + 1) 7)) q1.1) (a0 + 1) 7)) q4.1) (a0 + 1) 7 (((xu (xu q4.2 ((a0 + 1) + 5) (ix (q4.2 (a0 + 1) 7)) q1.1) (((a0 + 1) + 8) + 2) (ix ((xu q4.2 ((a0 + 1) + 5) (ix (q4.2 (a0 + 1) 7)) q1.1) (a0 + 1) 7)) q4.1) (a0 + 1) 7) + (1 : Int32))))) else none) else none)))))))
set_option maxHeartbeats 400000 in
set_option maxRecDepth 100000 in
theorem kX8_readPainter {E : xE} {B : Nat} {n : Nat} {K : Nat → Nat × Nat} {P : Nat → Nat → Nat} {I : Nat → Nat → Int32} {L : Nat → Nat → Int64}  {a0 : Nat} {q : Int32 × (Nat → Nat → Int32)} (d : Nat) (hd : 2 ≤ d) (G : GW K P)  (h0 : K a0 = (7, 0)) (hm : mX8_readPainter I a0 = some q) : MX E B d 0 0 yX8_readPainter cX8_readPainter 3 (some .boolean) [.ref a0] (n, K, P, I, L) (some (.int q.1), (n, K, P, q.2, L)) := by
  refine MX_of (lv := [(0, .ref a0)]) (by decide +kernel) (Nat.le_of_ble_eq_true rfl) rfl ?_
  obtain ⟨d, rfl⟩ : ∃ d0, d = d0 + 1 := ⟨d - 1, by omega⟩
  unfold mX8_readPainter at hm
  refine X_aload_n 0 dX8_readPainter_0 rfl rfl rfl ?_
  refine X_getPe fl_X8_18 h0 rfl (gl7_P0 G h0) dX8_readPainter_1 ?_
  refine X_iconst (v := (0 : Int32)) dX8_readPainter_4 (by decide) ?_
  refine X_bipush (v := (8 : Int32)) dX8_readPainter_5 (by decide) ?_
  obtain ⟨q1, e2, hm⟩ := ob hm
  refine X_cV1 (ci := 8) (kX9_takeNumber d (by omega) G e2) ml_X8_80 mi_X9_takeNumber rfl cf_8 (g_K3 G) rfl rfl (Nat.le_refl _) ⟨Nat.le_refl _, Nat.le_refl _⟩ (Nat.le_of_ble_eq_true rfl) dX8_readPainter_7 ?_
  refine X_istore_n (lv' := [(1, .int q1.1), (0, .ref a0)]) dX8_readPainter_10 rfl (by decide) rfl ?_
  refine X_iload_n 0 dX8_readPainter_11 rfl rfl ?_
  refine X_iconst (v := (-1 : Int32)) dX8_readPainter_12 (by decide) ?_
  refine X_icmp_ne (tgt := 18) dX8_readPainter_13 (by decide) (fun c3 => ?_) (fun c3 => ?_)
  · replace hm := iq c3 hm
    refine X_aload_n 1 dX8_readPainter_18 rfl rfl rfl ?_
    refine X_getPe fl_X8_18 h0 rfl (gl7_P0 G h0) dX8_readPainter_19 ?_
    refine X_iconst (v := (0 : Int32)) dX8_readPainter_22 (by decide) ?_
    refine X_bipush (v := (99 : Int32)) dX8_readPainter_23 (by decide) ?_
    obtain ⟨q4, e5, hm⟩ := ob hm
    refine X_cV1 (ci := 8) (kX9_takeNumber d (by omega) G e5) ml_X8_80 mi_X9_takeNumber rfl cf_8 (g_K3 G) rfl rfl (Nat.le_refl _) ⟨Nat.le_refl _, Nat.le_refl _⟩ (Nat.le_of_ble_eq_true rfl) dX8_readPainter_25 ?_
    refine X_istore_n (lv' := [(2, .int q4.1), (1, .int q1.1), (0, .ref a0)]) dX8_readPainter_28 rfl (by decide) rfl ?_
    refine X_iload_n 0 dX8_readPainter_29 rfl rfl ?_
    refine X_iconst (v := (-1 : Int32)) dX8_readPainter_30 (by decide) ?_
    refine X_icmp_ne (tgt := 36) dX8_readPainter_31 (by decide) (fun c6 => ?_) (fun c6 => ?_)
    · replace hm := iq c6 hm
      refine X_aload_n 2 dX8_readPainter_36 rfl rfl rfl ?_
      refine X_getPe fl_X8_12 h0 rfl (gl7_P1 G h0) dX8_readPainter_37 ?_
      refine X_getPe fl_X8_114 (gl7_K1 G h0) rfl (gl6_P13 G (gl7_K1 G h0)) dX8_readPainter_40 ?_
      refine X_aload_n 2 dX8_readPainter_43 rfl rfl rfl ?_
      refine X_getPe fl_X8_12 h0 rfl (gl7_P1 G h0) dX8_readPainter_44 ?_
      refine X_getI fl_X8_51 (gl7_K1 G h0) rfl dX8_readPainter_47 ?_
      refine X_iload_n 1 dX8_readPainter_50 rfl rfl ?_
      obtain ⟨g7, hm⟩ := og hm
      refine X_iastJ (gl6_K5 G (gl7_K1 G h0)) g7 rfl dX8_readPainter_51 ?_
      refine X_aload_n 2 dX8_readPainter_52 rfl rfl rfl ?_
      refine X_getPe fl_X8_12 h0 rfl (gl7_P1 G h0) dX8_readPainter_53 ?_
      refine X_getPe fl_X8_117 (gl7_K1 G h0) rfl (gl6_P16 G (gl7_K1 G h0)) dX8_readPainter_56 ?_
      refine X_getPe fl_X8_121 (gl6_K8 G (gl7_K1 G h0)) rfl (gl5_P1 G (gl6_K8 G (gl7_K1 G h0))) dX8_readPainter_59 ?_
      refine X_aload_n 2 dX8_readPainter_62 rfl rfl rfl ?_
      refine X_getPe fl_X8_12 h0 rfl (gl7_P1 G h0) dX8_readPainter_63 ?_
      refine X_getI fl_X8_51 (gl7_K1 G h0) rfl dX8_readPainter_66 ?_
      refine X_iload_n 0 dX8_readPainter_69 rfl rfl ?_
      obtain ⟨g8, hm⟩ := og hm
      refine X_iastJ (gl5_K2 G (gl6_K8 G (gl7_K1 G h0))) g8 rfl dX8_readPainter_70 ?_
      refine X_aload_n 2 dX8_readPainter_71 rfl rfl rfl ?_
      refine X_getPe fl_X8_12 h0 rfl (gl7_P1 G h0) dX8_readPainter_72 ?_
      refine X_dup dX8_readPainter_75 rfl ?_
      refine X_getI fl_X8_51 (gl7_K1 G h0) rfl dX8_readPainter_76 ?_
      refine X_iconst (v := (1 : Int32)) dX8_readPainter_79 (by decide) ?_
      refine X_iadd dX8_readPainter_80 ?_
      refine X_putI fl_X8_51 (gl7_K1 G h0) rfl rfl dX8_readPainter_81 ?_
      refine X_iconst (v := (1 : Int32)) dX8_readPainter_84 (by decide) ?_
      replace hm := Option.some.inj hm
      subst hm
      exact X_zret (v := (1 : Int32)) dX8_readPainter_85 rfl (x_nz (Or.inr rfl))
    · replace hm := ip c6 hm
      refine X_iconst (v := (0 : Int32)) dX8_readPainter_34 (by decide) ?_
      replace hm := Option.some.inj hm
      subst hm
      exact X_zret (v := (0 : Int32)) dX8_readPainter_35 rfl (x_nz (Or.inl rfl))
  · replace hm := ip c3 hm
    refine X_iconst (v := (0 : Int32)) dX8_readPainter_16 (by decide) ?_
    replace hm := Option.some.inj hm
    subst hm
    exact X_zret (v := (0 : Int32)) dX8_readPainter_17 rfl (x_nz (Or.inl rfl))
def mX8_readCoat  (I : Nat → Nat → Int32) (L : Nat → Nat → Int64) (a0 : Nat) : Option (Int32 × (Nat → Nat → Int32) × (Nat → Nat → Int64)) := (Option.bind (mX9_takeNumber I (0 : Int32) ((I (a0 + 1) 6) - (1 : Int32))) (fun q1 => (if q1.1 = (-1 : Int32) then (some ((0 : Int32), q1.2, L)) else (Option.bind (mX9_takeNumber q1.2 (0 : Int32) ((q1.2 (a0 + 1) 7) - (1 : Int32))) (fun q4 => (if q4.1 = (-1 : Int32) then (some ((0 : Int32), q4.2, L)) else (if inb q1.1 16 = true then (Option.bind (mX0_with (L (((a0 + 1) + 8) + 1) (ix q1.1)) q4.1 (-1 : Int32)) (fun q8 => (if inb q1.1 16 = true then (some ((1 : Int32), q4.2, (xu L (((a0 + 1) + 8) + 1) (ix q1.1) q8))) else none))) else none)))))))
set_option maxHeartbeats 400000 in
set_option maxRecDepth 100000 in
theorem kX8_readCoat {E : xE} {B : Nat} {n : Nat} {K : Nat → Nat × Nat} {P : Nat → Nat → Nat} {I : Nat → Nat → Int32} {L : Nat → Nat → Int64}  {a0 : Nat} {q : Int32 × (Nat → Nat → Int32) × (Nat → Nat → Int64)} (d : Nat) (hd : 2 ≤ d) (G : GW K P)  (h0 : K a0 = (7, 0)) (hm : mX8_readCoat I L a0 = some q) : MX E B d 0 0 yX8_readCoat cX8_readCoat 3 (some .boolean) [.ref a0] (n, K, P, I, L) (some (.int q.1), (n, K, P, q.2.1, q.2.2)) := by
  refine MX_of (lv := [(0, .ref a0)]) (by decide +kernel) (Nat.le_of_ble_eq_true rfl) rfl ?_
  obtain ⟨d, rfl⟩ : ∃ d0, d = d0 + 1 := ⟨d - 1, by omega⟩
  unfold mX8_readCoat at hm
  refine X_aload_n 0 dX8_readCoat_0 rfl rfl rfl ?_
  refine X_getPe fl_X8_18 h0 rfl (gl7_P0 G h0) dX8_readCoat_1 ?_
  refine X_iconst (v := (0 : Int32)) dX8_readCoat_4 (by decide) ?_
  refine X_aload_n 0 dX8_readCoat_5 rfl rfl rfl ?_
  refine X_getPe fl_X8_12 h0 rfl (gl7_P1 G h0) dX8_readCoat_6 ?_
  refine X_getI fl_X8_93 (gl7_K1 G h0) rfl dX8_readCoat_9 ?_
  refine X_iconst (v := (1 : Int32)) dX8_readCoat_12 (by decide) ?_
  refine X_isub dX8_readCoat_13 ?_
  obtain ⟨q1, e2, hm⟩ := ob hm
  refine X_cV1 (ci := 8) (kX9_takeNumber d (by omega) G e2) ml_X8_80 mi_X9_takeNumber rfl cf_8 (g_K3 G) rfl rfl (Nat.le_refl _) ⟨Nat.le_refl _, Nat.le_refl _⟩ (Nat.le_of_ble_eq_true rfl) dX8_readCoat_14 ?_
  refine X_istore_n (lv' := [(1, .int q1.1), (0, .ref a0)]) dX8_readCoat_17 rfl (by decide) rfl ?_
  refine X_iload_n 0 dX8_readCoat_18 rfl rfl ?_
  refine X_iconst (v := (-1 : Int32)) dX8_readCoat_19 (by decide) ?_
  refine X_icmp_ne (tgt := 25) dX8_readCoat_20 (by decide) (fun c3 => ?_) (fun c3 => ?_)
  · replace hm := iq c3 hm
    refine X_aload_n 1 dX8_readCoat_25 rfl rfl rfl ?_
    refine X_getPe fl_X8_18 h0 rfl (gl7_P0 G h0) dX8_readCoat_26 ?_
    refine X_iconst (v := (0 : Int32)) dX8_readCoat_29 (by decide) ?_
    refine X_aload_n 1 dX8_readCoat_30 rfl rfl rfl ?_
    refine X_getPe fl_X8_12 h0 rfl (gl7_P1 G h0) dX8_readCoat_31 ?_
    refine X_getI fl_X8_51 (gl7_K1 G h0) rfl dX8_readCoat_34 ?_
    refine X_iconst (v := (1 : Int32)) dX8_readCoat_37 (by decide) ?_
    refine X_isub dX8_readCoat_38 ?_
    obtain ⟨q4, e5, hm⟩ := ob hm
    refine X_cV1 (ci := 8) (kX9_takeNumber d (by omega) G e5) ml_X8_80 mi_X9_takeNumber rfl cf_8 (g_K3 G) rfl rfl (Nat.le_refl _) ⟨Nat.le_refl _, Nat.le_refl _⟩ (Nat.le_of_ble_eq_true rfl) dX8_readCoat_39 ?_
    refine X_istore_n (lv' := [(2, .int q4.1), (1, .int q1.1), (0, .ref a0)]) dX8_readCoat_42 rfl (by decide) rfl ?_
    refine X_iload_n 0 dX8_readCoat_43 rfl rfl ?_
    refine X_iconst (v := (-1 : Int32)) dX8_readCoat_44 (by decide) ?_
    refine X_icmp_ne (tgt := 50) dX8_readCoat_45 (by decide) (fun c6 => ?_) (fun c6 => ?_)
    · replace hm := iq c6 hm
      refine X_aload_n 2 dX8_readCoat_50 rfl rfl rfl ?_
      refine X_getPe fl_X8_12 h0 rfl (gl7_P1 G h0) dX8_readCoat_51 ?_
      refine X_getPe fl_X8_117 (gl7_K1 G h0) rfl (gl6_P16 G (gl7_K1 G h0)) dX8_readCoat_54 ?_
      refine X_getPe fl_X8_126 (gl6_K8 G (gl7_K1 G h0)) rfl (gl5_P0 G (gl6_K8 G (gl7_K1 G h0))) dX8_readCoat_57 ?_
      refine X_iload_n 1 dX8_readCoat_60 rfl rfl ?_
      refine X_aload_n 2 dX8_readCoat_61 rfl rfl rfl ?_
      refine X_getPe fl_X8_12 h0 rfl (gl7_P1 G h0) dX8_readCoat_62 ?_
      refine X_getPe fl_X8_117 (gl7_K1 G h0) rfl (gl6_P16 G (gl7_K1 G h0)) dX8_readCoat_65 ?_
      refine X_getPe fl_X8_126 (gl6_K8 G (gl7_K1 G h0)) rfl (gl5_P0 G (gl6_K8 G (gl7_K1 G h0))) dX8_readCoat_68 ?_
      refine X_iload_n 1 dX8_readCoat_71 rfl rfl ?_
      obtain ⟨g7, hm⟩ := og hm
      refine X_laldJ (gl5_K1 G (gl6_K8 G (gl7_K1 G h0))) g7 rfl dX8_readCoat_72 ?_
      refine X_iload_n 0 dX8_readCoat_73 rfl rfl ?_
      refine X_iconst (v := (-1 : Int32)) dX8_readCoat_74 (by decide) ?_
      obtain ⟨q8, e9, hm⟩ := ob hm
      refine X_cS1 (kX0_with d (by omega) G e9) ml_X8_130 ms_X0_with rfl rfl (Nat.le_refl _) ⟨Nat.le_refl _, Nat.le_refl _⟩ (Nat.le_of_ble_eq_true rfl) dX8_readCoat_75 ?_
      obtain ⟨g10, hm⟩ := og hm
      refine X_lastJ (gl5_K1 G (gl6_K8 G (gl7_K1 G h0))) g10 rfl dX8_readCoat_78 ?_
      refine X_iconst (v := (1 : Int32)) dX8_readCoat_79 (by decide) ?_
      replace hm := Option.some.inj hm
      subst hm
      exact X_zret (v := (1 : Int32)) dX8_readCoat_80 rfl (x_nz (Or.inr rfl))
    · replace hm := ip c6 hm
      refine X_iconst (v := (0 : Int32)) dX8_readCoat_48 (by decide) ?_
      replace hm := Option.some.inj hm
      subst hm
      exact X_zret (v := (0 : Int32)) dX8_readCoat_49 rfl (x_nz (Or.inl rfl))
  · replace hm := ip c3 hm
    refine X_iconst (v := (0 : Int32)) dX8_readCoat_23 (by decide) ?_
    replace hm := Option.some.inj hm
    subst hm
    exact X_zret (v := (0 : Int32)) dX8_readCoat_24 rfl (x_nz (Or.inl rfl))
def mX8_readBare  (I : Nat → Nat → Int32) (a0 : Nat) : Option (Int32 × (Nat → Nat → Int32)) := (Option.bind (mX9_takeNumber I (0 : Int32) ((I (a0 + 1) 5) - (1 : Int32))) (fun q1 => (if q1.1 = (-1 : Int32) then (some ((0 : Int32), q1.2)) else (some ((1 : Int32), (xu q1.2 ((a0 + 1) + 8) 3 ((q1.2 ((a0 + 1) + 8) 3) ||| (xshl (1 : Int32) q1.1))))))))
set_option maxHeartbeats 400000 in
set_option maxRecDepth 100000 in
theorem kX8_readBare {E : xE} {B : Nat} {n : Nat} {K : Nat → Nat × Nat} {P : Nat → Nat → Nat} {I : Nat → Nat → Int32} {L : Nat → Nat → Int64}  {a0 : Nat} {q : Int32 × (Nat → Nat → Int32)} (d : Nat) (hd : 2 ≤ d) (G : GW K P)  (h0 : K a0 = (7, 0)) (hm : mX8_readBare I a0 = some q) : MX E B d 0 0 yX8_readBare cX8_readBare 2 (some .boolean) [.ref a0] (n, K, P, I, L) (some (.int q.1), (n, K, P, q.2, L)) := by
  refine MX_of (lv := [(0, .ref a0)]) (by decide +kernel) (Nat.le_of_ble_eq_true rfl) rfl ?_
  obtain ⟨d, rfl⟩ : ∃ d0, d = d0 + 1 := ⟨d - 1, by omega⟩
  unfold mX8_readBare at hm
  refine X_aload_n 0 dX8_readBare_0 rfl rfl rfl ?_
  refine X_getPe fl_X8_18 h0 rfl (gl7_P0 G h0) dX8_readBare_1 ?_
  refine X_iconst (v := (0 : Int32)) dX8_readBare_4 (by decide) ?_
  refine X_aload_n 0 dX8_readBare_5 rfl rfl rfl ?_
  refine X_getPe fl_X8_12 h0 rfl (gl7_P1 G h0) dX8_readBare_6 ?_
  refine X_getI fl_X8_47 (gl7_K1 G h0) rfl dX8_readBare_9 ?_
  refine X_iconst (v := (1 : Int32)) dX8_readBare_12 (by decide) ?_
  refine X_isub dX8_readBare_13 ?_
  obtain ⟨q1, e2, hm⟩ := ob hm
  refine X_cV1 (ci := 8) (kX9_takeNumber d (by omega) G e2) ml_X8_80 mi_X9_takeNumber rfl cf_8 (g_K3 G) rfl rfl (Nat.le_refl _) ⟨Nat.le_refl _, Nat.le_refl _⟩ (Nat.le_of_ble_eq_true rfl) dX8_readBare_14 ?_
  refine X_istore_n (lv' := [(1, .int q1.1), (0, .ref a0)]) dX8_readBare_17 rfl (by decide) rfl ?_
  refine X_iload_n 0 dX8_readBare_18 rfl rfl ?_
  refine X_iconst (v := (-1 : Int32)) dX8_readBare_19 (by decide) ?_
  refine X_icmp_ne (tgt := 25) dX8_readBare_20 (by decide) (fun c3 => ?_) (fun c3 => ?_)
  · replace hm := iq c3 hm
    refine X_aload_n 1 dX8_readBare_25 rfl rfl rfl ?_
    refine X_getPe fl_X8_12 h0 rfl (gl7_P1 G h0) dX8_readBare_26 ?_
    refine X_getPe fl_X8_117 (gl7_K1 G h0) rfl (gl6_P16 G (gl7_K1 G h0)) dX8_readBare_29 ?_
    refine X_dup dX8_readBare_32 rfl ?_
    refine X_getI fl_X8_136 (gl6_K8 G (gl7_K1 G h0)) rfl dX8_readBare_33 ?_
    refine X_iconst (v := (1 : Int32)) dX8_readBare_36 (by decide) ?_
    refine X_iload_n 0 dX8_readBare_37 rfl rfl ?_
    refine X_ishl dX8_readBare_38 ?_
    refine X_ior dX8_readBare_39 ?_
    refine X_putI fl_X8_136 (gl6_K8 G (gl7_K1 G h0)) rfl rfl dX8_readBare_40 ?_
    refine X_iconst (v := (1 : Int32)) dX8_readBare_43 (by decide) ?_
    replace hm := Option.some.inj hm
    subst hm
    exact X_zret (v := (1 : Int32)) dX8_readBare_44 rfl (x_nz (Or.inr rfl))
  · replace hm := ip c3 hm
    refine X_iconst (v := (0 : Int32)) dX8_readBare_23 (by decide) ?_
    replace hm := Option.some.inj hm
    subst hm
    exact X_zret (v := (0 : Int32)) dX8_readBare_24 rfl (x_nz (Or.inl rfl))
def mX8_readRain  (I : Nat → Nat → Int32) (a0 : Nat) : Option (Int32 × (Nat → Nat → Int32)) := (Option.bind (mX9_takeNumber I (0 : Int32) (199 : Int32)) (fun q1 => (if q1.1 = (-1 : Int32) then (some ((0 : Int32), q1.2)) else (Option.bind (mX9_takeNumber q1.2 q1.1 (199 : Int32)) (fun q4 => (if q4.1 = (-1 : Int32) then (some ((0 : Int32), q4.2)) else (if inb (q4.2 (a0 + 1) 8) 5 = true then (if inb ((xu q4.2 ((a0 + 1) + 6) (ix (q4.2 (a0 + 1) 8)) q1.1) (a0 + 1) 8) 5 = true then (some ((1 : Int32), (xu (xu (xu q4.2 ((a0 + 1) + 6) (ix (q4.2 (a0 + 1) 8)) q1.1) ((a0 + 1) + 7) (ix ((xu q4.2 ((a0 + 1) + 6) (ix (q4.2 (a0 + 1) 8)) q1.1) (a0 + 1) 8)) q4.1) (a0 + 1) 8 (((xu (xu q4.2 ((a0 + 1) + 6) (ix (q4.2 (a0 + 1) 8)) q1.1) ((a0 + 1) + 7) (ix ((xu q4.2 ((a0 + 1) + 6) (ix (q4.2 (a0 + 1) 8)) q1.1) (a0 + 1) 8)) q4.1) (a0 + 1) 8) + (1 : Int32))))) else none) else none)))))))
set_option maxHeartbeats 400000 in
set_option maxRecDepth 100000 in
theorem kX8_readRain {E : xE} {B : Nat} {n : Nat} {K : Nat → Nat × Nat} {P : Nat → Nat → Nat} {I : Nat → Nat → Int32} {L : Nat → Nat → Int64}  {a0 : Nat} {q : Int32 × (Nat → Nat → Int32)} (d : Nat) (hd : 2 ≤ d) (G : GW K P)  (h0 : K a0 = (7, 0)) (hm : mX8_readRain I a0 = some q) : MX E B d 0 0 yX8_readRain cX8_readRain 3 (some .boolean) [.ref a0] (n, K, P, I, L) (some (.int q.1), (n, K, P, q.2, L)) := by
  refine MX_of (lv := [(0, .ref a0)]) (by decide +kernel) (Nat.le_of_ble_eq_true rfl) rfl ?_
  obtain ⟨d, rfl⟩ : ∃ d0, d = d0 + 1 := ⟨d - 1, by omega⟩
  unfold mX8_readRain at hm
  refine X_aload_n 0 dX8_readRain_0 rfl rfl rfl ?_
  refine X_getPe fl_X8_18 h0 rfl (gl7_P0 G h0) dX8_readRain_1 ?_
  refine X_iconst (v := (0 : Int32)) dX8_readRain_4 (by decide) ?_
  refine X_sipush (v := (199 : Int32)) dX8_readRain_5 (by decide) ?_
  obtain ⟨q1, e2, hm⟩ := ob hm
  refine X_cV1 (ci := 8) (kX9_takeNumber d (by omega) G e2) ml_X8_80 mi_X9_takeNumber rfl cf_8 (g_K3 G) rfl rfl (Nat.le_refl _) ⟨Nat.le_refl _, Nat.le_refl _⟩ (Nat.le_of_ble_eq_true rfl) dX8_readRain_8 ?_
  refine X_istore_n (lv' := [(1, .int q1.1), (0, .ref a0)]) dX8_readRain_11 rfl (by decide) rfl ?_
  refine X_iload_n 0 dX8_readRain_12 rfl rfl ?_
  refine X_iconst (v := (-1 : Int32)) dX8_readRain_13 (by decide) ?_
  refine X_icmp_ne (tgt := 19) dX8_readRain_14 (by decide) (fun c3 => ?_) (fun c3 => ?_)
  · replace hm := iq c3 hm
    refine X_aload_n 1 dX8_readRain_19 rfl rfl rfl ?_
    refine X_getPe fl_X8_18 h0 rfl (gl7_P0 G h0) dX8_readRain_20 ?_
    refine X_iload_n 0 dX8_readRain_23 rfl rfl ?_
    refine X_sipush (v := (199 : Int32)) dX8_readRain_24 (by decide) ?_
    obtain ⟨q4, e5, hm⟩ := ob hm
    refine X_cV1 (ci := 8) (kX9_takeNumber d (by omega) G e5) ml_X8_80 mi_X9_takeNumber rfl cf_8 (g_K3 G) rfl rfl (Nat.le_refl _) ⟨Nat.le_refl _, Nat.le_refl _⟩ (Nat.le_of_ble_eq_true rfl) dX8_readRain_27 ?_
    refine X_istore_n (lv' := [(2, .int q4.1), (1, .int q1.1), (0, .ref a0)]) dX8_readRain_30 rfl (by decide) rfl ?_
    refine X_iload_n 0 dX8_readRain_31 rfl rfl ?_
    refine X_iconst (v := (-1 : Int32)) dX8_readRain_32 (by decide) ?_
    refine X_icmp_ne (tgt := 38) dX8_readRain_33 (by decide) (fun c6 => ?_) (fun c6 => ?_)
    · replace hm := iq c6 hm
      refine X_aload_n 2 dX8_readRain_38 rfl rfl rfl ?_
      refine X_getPe fl_X8_12 h0 rfl (gl7_P1 G h0) dX8_readRain_39 ?_
      refine X_getPe fl_X8_139 (gl7_K1 G h0) rfl (gl6_P14 G (gl7_K1 G h0)) dX8_readRain_42 ?_
      refine X_aload_n 2 dX8_readRain_45 rfl rfl rfl ?_
      refine X_getPe fl_X8_12 h0 rfl (gl7_P1 G h0) dX8_readRain_46 ?_
      refine X_getI fl_X8_54 (gl7_K1 G h0) rfl dX8_readRain_49 ?_
      refine X_iload_n 1 dX8_readRain_52 rfl rfl ?_
      obtain ⟨g7, hm⟩ := og hm
      refine X_iastJ (gl6_K6 G (gl7_K1 G h0)) g7 rfl dX8_readRain_53 ?_
      refine X_aload_n 2 dX8_readRain_54 rfl rfl rfl ?_
      refine X_getPe fl_X8_12 h0 rfl (gl7_P1 G h0) dX8_readRain_55 ?_
      refine X_getPe fl_X8_142 (gl7_K1 G h0) rfl (gl6_P15 G (gl7_K1 G h0)) dX8_readRain_58 ?_
      refine X_aload_n 2 dX8_readRain_61 rfl rfl rfl ?_
      refine X_getPe fl_X8_12 h0 rfl (gl7_P1 G h0) dX8_readRain_62 ?_
      refine X_getI fl_X8_54 (gl7_K1 G h0) rfl dX8_readRain_65 ?_
      refine X_iload_n 0 dX8_readRain_68 rfl rfl ?_
      obtain ⟨g8, hm⟩ := og hm
      refine X_iastJ (gl6_K7 G (gl7_K1 G h0)) g8 rfl dX8_readRain_69 ?_
      refine X_aload_n 2 dX8_readRain_70 rfl rfl rfl ?_
      refine X_getPe fl_X8_12 h0 rfl (gl7_P1 G h0) dX8_readRain_71 ?_
      refine X_dup dX8_readRain_74 rfl ?_
      refine X_getI fl_X8_54 (gl7_K1 G h0) rfl dX8_readRain_75 ?_
      refine X_iconst (v := (1 : Int32)) dX8_readRain_78 (by decide) ?_
      refine X_iadd dX8_readRain_79 ?_
      refine X_putI fl_X8_54 (gl7_K1 G h0) rfl rfl dX8_readRain_80 ?_
      refine X_iconst (v := (1 : Int32)) dX8_readRain_83 (by decide) ?_
      replace hm := Option.some.inj hm
      subst hm
      exact X_zret (v := (1 : Int32)) dX8_readRain_84 rfl (x_nz (Or.inr rfl))
    · replace hm := ip c6 hm
      refine X_iconst (v := (0 : Int32)) dX8_readRain_36 (by decide) ?_
      replace hm := Option.some.inj hm
      subst hm
      exact X_zret (v := (0 : Int32)) dX8_readRain_37 rfl (x_nz (Or.inl rfl))
  · replace hm := ip c3 hm
    refine X_iconst (v := (0 : Int32)) dX8_readRain_17 (by decide) ?_
    replace hm := Option.some.inj hm
    subst hm
    exact X_zret (v := (0 : Int32)) dX8_readRain_18 rfl (x_nz (Or.inl rfl))
def mX8_readClause  (I : Nat → Nat → Int32) (L : Nat → Nat → Int64) (a0 : Nat) (a1 : Int32) : Option (Int32 × (Nat → Nat → Int32) × (Nat → Nat → Int64)) := (if a1 = (0 : Int32) then (Option.bind (mX8_readPainter I a0) (fun q2 => (if q2.1 = 0 ∨ q2.1 = 1 then (some (q2.1, q2.2, L)) else none))) else (if a1 = (1 : Int32) then (some ((1 : Int32), (xu I (a0 + 1) 4 (1 : Int32)), L)) else (if a1 = (2 : Int32) then (Option.bind (mX8_readThing I a0) (fun q7 => (if q7.1 = 0 ∨ q7.1 = 1 then (some (q7.1, q7.2, L)) else none))) else (if a1 = (3 : Int32) then (some ((1 : Int32), (xu I (a0 + 1) 4 (1 : Int32)), L)) else (if a1 = (4 : Int32) then (some ((1 : Int32), (xu I (a0 + 1) 4 (1 : Int32)), L)) else (if a1 = (5 : Int32) then (some ((1 : Int32), (xu I (a0 + 1) 4 (1 : Int32)), L)) else (if a1 = (6 : Int32) then (some ((1 : Int32), (xu I (a0 + 1) 4 (1 : Int32)), L)) else (if a1 = (7 : Int32) then (some ((1 : Int32), (xu I (a0 + 1) 4 (1 : Int32)), L)) else (if a1 = (8 : Int32) then (some ((1 : Int32), (xu I (a0 + 1) 4 (1 : Int32)), L)) else (if a1 = (9 : Int32) then (some ((1 : Int32), (xu I (a0 + 1) 4 (1 : Int32)), L)) else (if a1 = (10 : Int32) then (some ((1 : Int32), (xu I (a0 + 1) 4 (1 : Int32)), L)) else (if a1 = (11 : Int32) then (some ((1 : Int32), (xu I (a0 + 1) 4 (1 : Int32)), L)) else (if a1 = (12 : Int32) then (Option.bind (mX8_readRain I a0) (fun q20 => (if q20.1 = 0 ∨ q20.1 = 1 then (some (q20.1, q20.2, L)) else none))) else (if a1 = (13 : Int32) then (Option.bind (mX8_readHead I a0) (fun q24 => (if q24.1 = 0 ∨ q24.1 = 1 then (some (q24.1, q24.2, L)) else none))) else (if a1 = (14 : Int32) then (Option.bind (mX8_readCoat I L a0) (fun q28 => (if q28.1 = 0 ∨ q28.1 = 1 then (some (q28.1, q28.2.1, q28.2.2)) else none))) else (if a1 = (15 : Int32) then (Option.bind (mX8_readBare I a0) (fun q32 => (if q32.1 = 0 ∨ q32.1 = 1 then (some (q32.1, q32.2, L)) else none))) else (some ((1 : Int32), (xu I (a0 + 1) 4 (1 : Int32)), L))))))))))))))))))
set_option maxHeartbeats 400000 in
set_option maxRecDepth 100000 in
theorem kX8_readClause {E : xE} {B : Nat} {n : Nat} {K : Nat → Nat × Nat} {P : Nat → Nat → Nat} {I : Nat → Nat → Int32} {L : Nat → Nat → Int64}  {a0 : Nat} {a1 : Int32} {q : Int32 × (Nat → Nat → Int32) × (Nat → Nat → Int64)} (d : Nat) (hd : 3 ≤ d) (G : GW K P)  (h0 : K a0 = (7, 0)) (hm : mX8_readClause I L a0 a1 = some q) : MX E B d 0 0 yX8_readClause cX8_readClause 2 (some .boolean) [.ref a0, .int a1] (n, K, P, I, L) (some (.int q.1), (n, K, P, q.2.1, q.2.2)) := by
  refine MX_of (lv := [(0, .ref a0), (1, .int a1)]) (by decide +kernel) (Nat.le_of_ble_eq_true rfl) rfl ?_
  obtain ⟨d, rfl⟩ : ∃ d0, d = d0 + 1 := ⟨d - 1, by omega⟩
  unfold mX8_readClause at hm
  refine X_iload_n 1 dX8_readClause_0 rfl rfl ?_
  rcases Decidable.em (a1 = (0 : Int32)) with c1 | c1
  · replace hm := ip c1 hm
    refine X_swK (off := 89) (tgt := 90) c1 dX8_readClause_1 (by decide) (by decide) (by decide) (by decide) ?_
    refine X_aload_n 0 dX8_readClause_90 rfl rfl rfl ?_
    obtain ⟨q2, e3, hm⟩ := ob hm
    refine X_cV1 (ci := 7) (kX8_readPainter d (by omega) G h0 e3) ml_X8_68 mi_X8_readPainter rfl cf_7 h0 rfl rfl (Nat.le_refl _) ⟨Nat.le_refl _, Nat.le_refl _⟩ (Nat.le_of_ble_eq_true rfl) dX8_readClause_91 ?_
    obtain ⟨g4, hm⟩ := og hm
    replace hm := Option.some.inj hm
    subst hm
    exact X_zret dX8_readClause_94 rfl (x_nz g4)
  · replace hm := iq c1 hm
    rcases Decidable.em (a1 = (1 : Int32)) with c5 | c5
    · replace hm := ip c5 hm
      refine X_swK (off := 109) (tgt := 110) c5 dX8_readClause_1 (by decide) (by decide) (by decide) (by decide) ?_
      refine X_aload_n 0 dX8_readClause_110 rfl rfl rfl ?_
      refine X_getPe fl_X8_12 h0 rfl (gl7_P1 G h0) dX8_readClause_111 ?_
      refine X_iconst (v := (1 : Int32)) dX8_readClause_114 (by decide) ?_
      refine X_putZ fl_X8_57 (gl7_K1 G h0) rfl (by decide) rfl dX8_readClause_115 ?_
      refine X_iconst (v := (1 : Int32)) dX8_readClause_118 (by decide) ?_
      replace hm := Option.some.inj hm
      subst hm
      exact X_zret (v := (1 : Int32)) dX8_readClause_119 rfl (x_nz (Or.inr rfl))
    · replace hm := iq c5 hm
      rcases Decidable.em (a1 = (2 : Int32)) with c6 | c6
      · replace hm := ip c6 hm
        refine X_swK (off := 84) (tgt := 85) c6 dX8_readClause_1 (by decide) (by decide) (by decide) (by decide) ?_
        refine X_aload_n 0 dX8_readClause_85 rfl rfl rfl ?_
        obtain ⟨q7, e8, hm⟩ := ob hm
        refine X_cV1 (ci := 7) (kX8_readThing d (by omega) G h0 e8) ml_X8_65 mi_X8_readThing rfl cf_7 h0 rfl rfl (Nat.le_refl _) ⟨Nat.le_refl _, Nat.le_refl _⟩ (Nat.le_of_ble_eq_true rfl) dX8_readClause_86 ?_
        obtain ⟨g9, hm⟩ := og hm
        replace hm := Option.some.inj hm
        subst hm
        exact X_zret dX8_readClause_89 rfl (x_nz g9)
      · replace hm := iq c6 hm
        rcases Decidable.em (a1 = (3 : Int32)) with c10 | c10
        · replace hm := ip c10 hm
          refine X_swK (off := 109) (tgt := 110) c10 dX8_readClause_1 (by decide) (by decide) (by decide) (by decide) ?_
          refine X_aload_n 0 dX8_readClause_110 rfl rfl rfl ?_
          refine X_getPe fl_X8_12 h0 rfl (gl7_P1 G h0) dX8_readClause_111 ?_
          refine X_iconst (v := (1 : Int32)) dX8_readClause_114 (by decide) ?_
          refine X_putZ fl_X8_57 (gl7_K1 G h0) rfl (by decide) rfl dX8_readClause_115 ?_
          refine X_iconst (v := (1 : Int32)) dX8_readClause_118 (by decide) ?_
          replace hm := Option.some.inj hm
          subst hm
          exact X_zret (v := (1 : Int32)) dX8_readClause_119 rfl (x_nz (Or.inr rfl))
        · replace hm := iq c10 hm
          rcases Decidable.em (a1 = (4 : Int32)) with c11 | c11
          · replace hm := ip c11 hm
            refine X_swK (off := 109) (tgt := 110) c11 dX8_readClause_1 (by decide) (by decide) (by decide) (by decide) ?_
            refine X_aload_n 0 dX8_readClause_110 rfl rfl rfl ?_
            refine X_getPe fl_X8_12 h0 rfl (gl7_P1 G h0) dX8_readClause_111 ?_
            refine X_iconst (v := (1 : Int32)) dX8_readClause_114 (by decide) ?_
            refine X_putZ fl_X8_57 (gl7_K1 G h0) rfl (by decide) rfl dX8_readClause_115 ?_
            refine X_iconst (v := (1 : Int32)) dX8_readClause_118 (by decide) ?_
            replace hm := Option.some.inj hm
            subst hm
            exact X_zret (v := (1 : Int32)) dX8_readClause_119 rfl (x_nz (Or.inr rfl))
          · replace hm := iq c11 hm
            rcases Decidable.em (a1 = (5 : Int32)) with c12 | c12
            · replace hm := ip c12 hm
              refine X_swK (off := 109) (tgt := 110) c12 dX8_readClause_1 (by decide) (by decide) (by decide) (by decide) ?_
              refine X_aload_n 0 dX8_readClause_110 rfl rfl rfl ?_
              refine X_getPe fl_X8_12 h0 rfl (gl7_P1 G h0) dX8_readClause_111 ?_
              refine X_iconst (v := (1 : Int32)) dX8_readClause_114 (by decide) ?_
              refine X_putZ fl_X8_57 (gl7_K1 G h0) rfl (by decide) rfl dX8_readClause_115 ?_
              refine X_iconst (v := (1 : Int32)) dX8_readClause_118 (by decide) ?_
              replace hm := Option.some.inj hm
              subst hm
              exact X_zret (v := (1 : Int32)) dX8_readClause_119 rfl (x_nz (Or.inr rfl))
            · replace hm := iq c12 hm
              rcases Decidable.em (a1 = (6 : Int32)) with c13 | c13
              · replace hm := ip c13 hm
                refine X_swK (off := 109) (tgt := 110) c13 dX8_readClause_1 (by decide) (by decide) (by decide) (by decide) ?_
                refine X_aload_n 0 dX8_readClause_110 rfl rfl rfl ?_
                refine X_getPe fl_X8_12 h0 rfl (gl7_P1 G h0) dX8_readClause_111 ?_
                refine X_iconst (v := (1 : Int32)) dX8_readClause_114 (by decide) ?_
                refine X_putZ fl_X8_57 (gl7_K1 G h0) rfl (by decide) rfl dX8_readClause_115 ?_
                refine X_iconst (v := (1 : Int32)) dX8_readClause_118 (by decide) ?_
                replace hm := Option.some.inj hm
                subst hm
                exact X_zret (v := (1 : Int32)) dX8_readClause_119 rfl (x_nz (Or.inr rfl))
              · replace hm := iq c13 hm
                rcases Decidable.em (a1 = (7 : Int32)) with c14 | c14
                · replace hm := ip c14 hm
                  refine X_swK (off := 109) (tgt := 110) c14 dX8_readClause_1 (by decide) (by decide) (by decide) (by decide) ?_
                  refine X_aload_n 0 dX8_readClause_110 rfl rfl rfl ?_
                  refine X_getPe fl_X8_12 h0 rfl (gl7_P1 G h0) dX8_readClause_111 ?_
                  refine X_iconst (v := (1 : Int32)) dX8_readClause_114 (by decide) ?_
                  refine X_putZ fl_X8_57 (gl7_K1 G h0) rfl (by decide) rfl dX8_readClause_115 ?_
                  refine X_iconst (v := (1 : Int32)) dX8_readClause_118 (by decide) ?_
                  replace hm := Option.some.inj hm
                  subst hm
                  exact X_zret (v := (1 : Int32)) dX8_readClause_119 rfl (x_nz (Or.inr rfl))
                · replace hm := iq c14 hm
                  rcases Decidable.em (a1 = (8 : Int32)) with c15 | c15
                  · replace hm := ip c15 hm
                    refine X_swK (off := 109) (tgt := 110) c15 dX8_readClause_1 (by decide) (by decide) (by decide) (by decide) ?_
                    refine X_aload_n 0 dX8_readClause_110 rfl rfl rfl ?_
                    refine X_getPe fl_X8_12 h0 rfl (gl7_P1 G h0) dX8_readClause_111 ?_
                    refine X_iconst (v := (1 : Int32)) dX8_readClause_114 (by decide) ?_
                    refine X_putZ fl_X8_57 (gl7_K1 G h0) rfl (by decide) rfl dX8_readClause_115 ?_
                    refine X_iconst (v := (1 : Int32)) dX8_readClause_118 (by decide) ?_
                    replace hm := Option.some.inj hm
                    subst hm
                    exact X_zret (v := (1 : Int32)) dX8_readClause_119 rfl (x_nz (Or.inr rfl))
                  · replace hm := iq c15 hm
                    rcases Decidable.em (a1 = (9 : Int32)) with c16 | c16
                    · replace hm := ip c16 hm
                      refine X_swK (off := 109) (tgt := 110) c16 dX8_readClause_1 (by decide) (by decide) (by decide) (by decide) ?_
                      refine X_aload_n 0 dX8_readClause_110 rfl rfl rfl ?_
                      refine X_getPe fl_X8_12 h0 rfl (gl7_P1 G h0) dX8_readClause_111 ?_
                      refine X_iconst (v := (1 : Int32)) dX8_readClause_114 (by decide) ?_
                      refine X_putZ fl_X8_57 (gl7_K1 G h0) rfl (by decide) rfl dX8_readClause_115 ?_
                      refine X_iconst (v := (1 : Int32)) dX8_readClause_118 (by decide) ?_
                      replace hm := Option.some.inj hm
                      subst hm
                      exact X_zret (v := (1 : Int32)) dX8_readClause_119 rfl (x_nz (Or.inr rfl))
                    · replace hm := iq c16 hm
                      rcases Decidable.em (a1 = (10 : Int32)) with c17 | c17
                      · replace hm := ip c17 hm
                        refine X_swK (off := 109) (tgt := 110) c17 dX8_readClause_1 (by decide) (by decide) (by decide) (by decide) ?_
                        refine X_aload_n 0 dX8_readClause_110 rfl rfl rfl ?_
                        refine X_getPe fl_X8_12 h0 rfl (gl7_P1 G h0) dX8_readClause_111 ?_
                        refine X_iconst (v := (1 : Int32)) dX8_readClause_114 (by decide) ?_
                        refine X_putZ fl_X8_57 (gl7_K1 G h0) rfl (by decide) rfl dX8_readClause_115 ?_
                        refine X_iconst (v := (1 : Int32)) dX8_readClause_118 (by decide) ?_
                        replace hm := Option.some.inj hm
                        subst hm
                        exact X_zret (v := (1 : Int32)) dX8_readClause_119 rfl (x_nz (Or.inr rfl))
                      · replace hm := iq c17 hm
                        rcases Decidable.em (a1 = (11 : Int32)) with c18 | c18
                        · replace hm := ip c18 hm
                          refine X_swK (off := 109) (tgt := 110) c18 dX8_readClause_1 (by decide) (by decide) (by decide) (by decide) ?_
                          refine X_aload_n 0 dX8_readClause_110 rfl rfl rfl ?_
                          refine X_getPe fl_X8_12 h0 rfl (gl7_P1 G h0) dX8_readClause_111 ?_
                          refine X_iconst (v := (1 : Int32)) dX8_readClause_114 (by decide) ?_
                          refine X_putZ fl_X8_57 (gl7_K1 G h0) rfl (by decide) rfl dX8_readClause_115 ?_
                          refine X_iconst (v := (1 : Int32)) dX8_readClause_118 (by decide) ?_
                          replace hm := Option.some.inj hm
                          subst hm
                          exact X_zret (v := (1 : Int32)) dX8_readClause_119 rfl (x_nz (Or.inr rfl))
                        · replace hm := iq c18 hm
                          rcases Decidable.em (a1 = (12 : Int32)) with c19 | c19
                          · replace hm := ip c19 hm
                            refine X_swK (off := 104) (tgt := 105) c19 dX8_readClause_1 (by decide) (by decide) (by decide) (by decide) ?_
                            refine X_aload_n 0 dX8_readClause_105 rfl rfl rfl ?_
                            obtain ⟨q20, e21, hm⟩ := ob hm
                            refine X_cV1 (ci := 7) (kX8_readRain d (by omega) G h0 e21) ml_X8_77 mi_X8_readRain rfl cf_7 h0 rfl rfl (Nat.le_refl _) ⟨Nat.le_refl _, Nat.le_refl _⟩ (Nat.le_of_ble_eq_true rfl) dX8_readClause_106 ?_
                            obtain ⟨g22, hm⟩ := og hm
                            replace hm := Option.some.inj hm
                            subst hm
                            exact X_zret dX8_readClause_109 rfl (x_nz g22)
                          · replace hm := iq c19 hm
                            rcases Decidable.em (a1 = (13 : Int32)) with c23 | c23
                            · replace hm := ip c23 hm
                              refine X_swK (off := 79) (tgt := 80) c23 dX8_readClause_1 (by decide) (by decide) (by decide) (by decide) ?_
                              refine X_aload_n 0 dX8_readClause_80 rfl rfl rfl ?_
                              obtain ⟨q24, e25, hm⟩ := ob hm
                              refine X_cV1 (ci := 7) (kX8_readHead d (by omega) G h0 e25) ml_X8_61 mi_X8_readHead rfl cf_7 h0 rfl rfl (Nat.le_refl _) ⟨Nat.le_refl _, Nat.le_refl _⟩ (Nat.le_of_ble_eq_true rfl) dX8_readClause_81 ?_
                              obtain ⟨g26, hm⟩ := og hm
                              replace hm := Option.some.inj hm
                              subst hm
                              exact X_zret dX8_readClause_84 rfl (x_nz g26)
                            · replace hm := iq c23 hm
                              rcases Decidable.em (a1 = (14 : Int32)) with c27 | c27
                              · replace hm := ip c27 hm
                                refine X_swK (off := 94) (tgt := 95) c27 dX8_readClause_1 (by decide) (by decide) (by decide) (by decide) ?_
                                refine X_aload_n 0 dX8_readClause_95 rfl rfl rfl ?_
                                obtain ⟨q28, e29, hm⟩ := ob hm
                                refine X_cV1 (ci := 7) (kX8_readCoat d (by omega) G h0 e29) ml_X8_71 mi_X8_readCoat rfl cf_7 h0 rfl rfl (Nat.le_refl _) ⟨Nat.le_refl _, Nat.le_refl _⟩ (Nat.le_of_ble_eq_true rfl) dX8_readClause_96 ?_
                                obtain ⟨g30, hm⟩ := og hm
                                replace hm := Option.some.inj hm
                                subst hm
                                exact X_zret dX8_readClause_99 rfl (x_nz g30)
                              · replace hm := iq c27 hm
                                rcases Decidable.em (a1 = (15 : Int32)) with c31 | c31
                                · replace hm := ip c31 hm
                                  refine X_swK (off := 99) (tgt := 100) c31 dX8_readClause_1 (by decide) (by decide) (by decide) (by decide) ?_
                                  refine X_aload_n 0 dX8_readClause_100 rfl rfl rfl ?_
                                  obtain ⟨q32, e33, hm⟩ := ob hm
                                  refine X_cV1 (ci := 7) (kX8_readBare d (by omega) G h0 e33) ml_X8_74 mi_X8_readBare rfl cf_7 h0 rfl rfl (Nat.le_refl _) ⟨Nat.le_refl _, Nat.le_refl _⟩ (Nat.le_of_ble_eq_true rfl) dX8_readClause_101 ?_
                                  obtain ⟨g34, hm⟩ := og hm
                                  replace hm := Option.some.inj hm
                                  subst hm
                                  exact X_zret dX8_readClause_104 rfl (x_nz g34)
                                · replace hm := iq c31 hm
                                  refine X_tableOut (tgt := 110) dX8_readClause_1 (sw_out 16 (by decide) (fun i hi => by
                                    have hi2 : i = 0 ∨ i = 1 ∨ i = 2 ∨ i = 3 ∨ i = 4 ∨ i = 5 ∨ i = 6 ∨ i = 7 ∨ i = 8 ∨ i = 9 ∨ i = 10 ∨ i = 11 ∨ i = 12 ∨ i = 13 ∨ i = 14 ∨ i = 15 := by omega
                                    rcases hi2 with rfl | rfl | rfl | rfl | rfl | rfl | rfl | rfl | rfl | rfl | rfl | rfl | rfl | rfl | rfl | rfl
                                    · exact c1
                                    · exact c5
                                    · exact c6
                                    · exact c10
                                    · exact c11
                                    · exact c12
                                    · exact c13
                                    · exact c14
                                    · exact c15
                                    · exact c16
                                    · exact c17
                                    · exact c18
                                    · exact c19
                                    · exact c23
                                    · exact c27
                                    · exact c31)) (by decide) ?_
                                  refine X_aload_n 0 dX8_readClause_110 rfl rfl rfl ?_
                                  refine X_getPe fl_X8_12 h0 rfl (gl7_P1 G h0) dX8_readClause_111 ?_
                                  refine X_iconst (v := (1 : Int32)) dX8_readClause_114 (by decide) ?_
                                  refine X_putZ fl_X8_57 (gl7_K1 G h0) rfl (by decide) rfl dX8_readClause_115 ?_
                                  refine X_iconst (v := (1 : Int32)) dX8_readClause_118 (by decide) ?_
                                  replace hm := Option.some.inj hm
                                  subst hm
                                  exact X_zret (v := (1 : Int32)) dX8_readClause_119 rfl (x_nz (Or.inr rfl))
def mX8_finish_2   : Nat → (Nat → Nat → Int32) → (Nat → Nat → Int64) → Nat → Int32 → Option ((Nat → Nat → Int32) × (Nat → Nat → Int64))
  | 0, _, _, _, _ => none
  | f + 1, I, L, a0, a1 => (if (I (a0 + 1) 5) ≤ a1 then (some ((xu I (a0 + 1) 0 (1 : Int32)), L)) else (Option.bind (mX6_isBare I ((a0 + 1) + 8) a1) (fun q2 => (if q2 = 0 then (mX8_finish_2 f I L a0 (a1 + 1)) else (Option.bind (mX7_strip I L (a0 + 1) ((a0 + 1) + 8) a1) (fun q5 => (mX8_finish_2 f I q5.2 a0 (a1 + 1))))))))
set_option maxHeartbeats 400000 in
set_option maxRecDepth 100000 in
theorem kX8_finish_2 {E : xE} {B : Nat} {n : Nat} {K : Nat → Nat × Nat} {P : Nat → Nat → Nat}   {q : (Nat → Nat → Int32) × (Nat → Nat → Int64)} (d : Nat) (hd : 2 ≤ d) (G : GW K P)   : ∀ (f : Nat) (I : Nat → Nat → Int32) (L : Nat → Nat → Int64) (a0 : Nat) (a1 : Int32), K a0 = (7, 0) → mX8_finish_2 f I L a0 a1 = some q → X E B d 0 0 yX8_finish cX8_finish 2 (none : Option Jvm.ClassFile.FieldType) (none, (n, K, P, q.1, q.2)) 2 [(0, .ref a0), (1, .int a1)] [] 0 0 (n, K, P, I, L) := by
  obtain ⟨d, rfl⟩ : ∃ d0, d = d0 + 1 := ⟨d - 1, by omega⟩
  intro f
  induction f with
  | zero => intro _ _ _ _ _ hm; exact nomatch (show (none : Option ((Nat → Nat → Int32) × (Nat → Nat → Int64))) = some q from hm)
  | succ f ih =>
    intro I L a0 a1 h0 hm
    rw [mX8_finish_2] at hm
    refine X_iload_n 1 dX8_finish_2 rfl rfl ?_
    refine X_aload_n 0 dX8_finish_3 rfl rfl rfl ?_
    refine X_getPe fl_X8_12 h0 rfl (gl7_P1 G h0) dX8_finish_4 ?_
    refine X_getI fl_X8_47 (gl7_K1 G h0) rfl dX8_finish_7 ?_
    refine X_icmp_ge (tgt := 49) dX8_finish_10 (by decide) (fun c1 => ?_) (fun c1 => ?_)
    · replace hm := ip c1 hm
      refine X_aload_n 0 dX8_finish_49 rfl rfl rfl ?_
      refine X_getPe fl_X8_12 h0 rfl (gl7_P1 G h0) dX8_finish_50 ?_
      refine X_iconst (v := (1 : Int32)) dX8_finish_53 (by decide) ?_
      refine X_putZ fl_X8_152 (gl7_K1 G h0) rfl (by decide) rfl dX8_finish_54 ?_
      replace hm := Option.some.inj hm
      subst hm
      exact X_vret dX8_finish_57 rfl
    · replace hm := iq c1 hm
      refine X_aload_n 0 dX8_finish_13 rfl rfl rfl ?_
      refine X_getPe fl_X8_12 h0 rfl (gl7_P1 G h0) dX8_finish_14 ?_
      refine X_getPe fl_X8_117 (gl7_K1 G h0) rfl (gl6_P16 G (gl7_K1 G h0)) dX8_finish_17 ?_
      refine X_iload_n 1 dX8_finish_20 rfl rfl ?_
      obtain ⟨q2, e3, hm⟩ := ob hm
      refine X_cV1 (ci := 5) (kX6_isBare d (by omega) G (gl6_K8 G (gl7_K1 G h0)) e3) ml_X8_145 mi_X6_isBare rfl cf_5 (gl6_K8 G (gl7_K1 G h0)) rfl rfl (Nat.le_refl _) ⟨Nat.le_refl _, Nat.le_refl _⟩ (Nat.le_of_ble_eq_true rfl) dX8_finish_21 ?_
      refine X_if_eq (tgt := 43) dX8_finish_24 (by decide) (fun c4 => ?_) (fun c4 => ?_)
      · replace hm := ip c4 hm
        refine X_iinc (lv' := [(1, .int (a1 + 1)), (0, .ref a0)]) 1 dX8_finish_43 rfl rfl (by decide) rfl ?_
        refine X_goto (tgt := 2) dX8_finish_46 (by decide) ?_
        exact X_lv [1, 0] rfl (ih _ _ _ _ h0 hm)
      · replace hm := iq c4 hm
        refine X_aload_n 0 dX8_finish_27 rfl rfl rfl ?_
        refine X_getPe fl_X8_12 h0 rfl (gl7_P1 G h0) dX8_finish_28 ?_
        refine X_aload_n 0 dX8_finish_31 rfl rfl rfl ?_
        refine X_getPe fl_X8_12 h0 rfl (gl7_P1 G h0) dX8_finish_32 ?_
        refine X_getPe fl_X8_117 (gl7_K1 G h0) rfl (gl6_P16 G (gl7_K1 G h0)) dX8_finish_35 ?_
        refine X_iload_n 1 dX8_finish_38 rfl rfl ?_
        obtain ⟨q5, e6, hm⟩ := ob hm
        refine X_cV1 (ci := 6) (kX7_strip d (by omega) G (gl7_K1 G h0) (gl6_K8 G (gl7_K1 G h0)) e6) ml_X8_148 mi_X7_strip rfl cf_6 (gl7_K1 G h0) rfl rfl (Nat.le_refl _) ⟨Nat.le_refl _, Nat.le_refl _⟩ (Nat.le_of_ble_eq_true rfl) dX8_finish_39 ?_
        refine X_pop dX8_finish_42 rfl ?_
        refine X_iinc (lv' := [(1, .int (a1 + 1)), (0, .ref a0)]) 1 dX8_finish_43 rfl rfl (by decide) rfl ?_
        refine X_goto (tgt := 2) dX8_finish_46 (by decide) ?_
        exact X_lv [1, 0] rfl (ih _ _ _ _ h0 hm)
def mX8_finish  (I : Nat → Nat → Int32) (L : Nat → Nat → Int64) (a0 : Nat) : Option ((Nat → Nat → Int32) × (Nat → Nat → Int64)) := (mX8_finish_2 xf I L a0 (0 : Int32))
set_option maxHeartbeats 400000 in
set_option maxRecDepth 100000 in
theorem kX8_finish {E : xE} {B : Nat} {n : Nat} {K : Nat → Nat × Nat} {P : Nat → Nat → Nat} {I : Nat → Nat → Int32} {L : Nat → Nat → Int64}  {a0 : Nat} {q : (Nat → Nat → Int32) × (Nat → Nat → Int64)} (d : Nat) (hd : 2 ≤ d) (G : GW K P)  (h0 : K a0 = (7, 0)) (hm : mX8_finish I L a0 = some q) : MX E B d 0 0 yX8_finish cX8_finish 2 (none : Option Jvm.ClassFile.FieldType) [.ref a0] (n, K, P, I, L) (none, (n, K, P, q.1, q.2)) := by
  refine MX_of (lv := [(0, .ref a0)]) (by decide +kernel) (Nat.le_of_ble_eq_true rfl) rfl ?_
  obtain ⟨d, rfl⟩ : ∃ d0, d = d0 + 1 := ⟨d - 1, by omega⟩
  unfold mX8_finish at hm
  refine X_iconst (v := (0 : Int32)) dX8_finish_0 (by decide) ?_
  refine X_istore_n (lv' := [(1, .int (0 : Int32)), (0, .ref a0)]) dX8_finish_1 rfl (by decide) rfl ?_
  refine X_lv [1, 0] rfl (kX8_finish_2 _ hd G xf _ _ _ _ h0 hm)
def mX8_readAll_58 (b2 : (Nat → Nat → Int32) → (Nat → Nat → Int64) → Nat → Int32 → Option (Int32 × (Nat → Nat → Int32) × (Nat → Nat → Int64))) (I : Nat → Nat → Int32) (L : Nat → Nat → Int64) (a0 : Nat) (a1 : Int32) (a2 : Int32) (t0 : Int32) (t1 : Int32) : Option (Int32 × (Nat → Nat → Int32) × (Nat → Nat → Int64)) := (if t1 = t0 then (Option.bind (mX8_isFullOf I a0 a2) (fun q17 => (if q17 = 0 then (Option.bind (mX9_step I) (fun q20 => (Option.bind (mX8_readClause q20 L a0 a2) (fun q22 => (if q22.1 = 0 then (some ((0 : Int32), q22.2.1, q22.2.2)) else (Option.bind (mX9_kind q22.2.1) (fun q25 => (if q25 = (36 : Int32) then (Option.bind (mX8_finish q22.2.1 q22.2.2 a0) (fun q36 => (some ((1 : Int32), q36.1, q36.2)))) else (Option.bind (mX9_kind q22.2.1) (fun q28 => (if q28 = (32 : Int32) then (Option.bind (mX9_step q22.2.1) (fun q31 => (b2 q31 q22.2.2 a0 (a1 + 1)))) else (Option.bind (mX9_fail q22.2.1 (0 : Int32)) (fun q33 => (if q33.1 = 0 ∨ q33.1 = 1 then (some (q33.1, q33.2, q22.2.2)) else none)))))))))))))) else (Option.bind (mX9_fail I (4 : Int32)) (fun q38 => (if q38.1 = 0 ∨ q38.1 = 1 then (some (q38.1, q38.2, L)) else none)))))) else (Option.bind (mX9_fail I (4 : Int32)) (fun q14 => (if q14.1 = 0 ∨ q14.1 = 1 then (some (q14.1, q14.2, L)) else none))))
set_option maxHeartbeats 400000 in
set_option maxRecDepth 100000 in
theorem kX8_readAll_58 {E : xE} {B : Nat} {n : Nat} {K : Nat → Nat × Nat} {P : Nat → Nat → Nat} {I : Nat → Nat → Int32} {L : Nat → Nat → Int64}  {b2 : (Nat → Nat → Int32) → (Nat → Nat → Int64) → Nat → Int32 → Option (Int32 × (Nat → Nat → Int32) × (Nat → Nat → Int64))} {a0 : Nat} {a1 : Int32} {a2 : Int32} {t0 : Int32} {t1 : Int32} {q : Int32 × (Nat → Nat → Int32) × (Nat → Nat → Int64)} (d : Nat) (hd : 4 ≤ d) (G : GW K P)  (hb2 : ∀ (I : Nat → Nat → Int32) (L : Nat → Nat → Int64) (a0 : Nat) (a1 : Int32), K a0 = (7, 0) → b2 I L a0 a1 = some q → X E B d 0 0 yX8_readAll cX8_readAll 3 (some .boolean) (some (.int q.1), (n, K, P, q.2.1, q.2.2)) 2 [(0, .ref a0), (1, .int a1)] [] 0 0 (n, K, P, I, L)) (h0 : K a0 = (7, 0)) (hm : mX8_readAll_58 b2 I L a0 a1 a2 t0 t1 = some q) : X E B d 0 0 yX8_readAll cX8_readAll 3 (some .boolean) (some (.int q.1), (n, K, P, q.2.1, q.2.2)) 58 [(0, .ref a0), (1, .int a1), (2, .int a2)] [.int t0, .int t1] 0 0 (n, K, P, I, L) := by
  obtain ⟨d, rfl⟩ : ∃ d0, d = d0 + 1 := ⟨d - 1, by omega⟩
  unfold mX8_readAll_58 at hm
  refine X_icmp_ne (tgt := 69) dX8_readAll_58 (by decide) (fun c13 => ?_) (fun c13 => ?_)
  · replace hm := iq c13 hm
    refine X_aload_n 0 dX8_readAll_69 rfl rfl rfl ?_
    refine X_getPe fl_X8_18 h0 rfl (gl7_P0 G h0) dX8_readAll_70 ?_
    refine X_iconst (v := (4 : Int32)) dX8_readAll_73 (by decide) ?_
    obtain ⟨q14, e15, hm⟩ := ob hm
    refine X_cV1 (ci := 8) (kX9_fail d (by omega) G e15) ml_X8_32 mi_X9_fail rfl cf_8 (g_K3 G) rfl rfl (Nat.le_refl _) ⟨Nat.le_refl _, Nat.le_refl _⟩ (Nat.le_of_ble_eq_true rfl) dX8_readAll_74 ?_
    obtain ⟨g16, hm⟩ := og hm
    replace hm := Option.some.inj hm
    subst hm
    exact X_zret dX8_readAll_77 rfl (x_nz g16)
  · replace hm := ip c13 hm
    refine X_aload_n 0 dX8_readAll_61 rfl rfl rfl ?_
    refine X_iload_n 2 dX8_readAll_62 rfl rfl ?_
    obtain ⟨q17, e18, hm⟩ := ob hm
    refine X_cV1 (ci := 7) (kX8_isFullOf d (by omega) G h0 e18) ml_X8_35 mi_X8_isFullOf rfl cf_7 h0 rfl rfl (Nat.le_refl _) ⟨Nat.le_refl _, Nat.le_refl _⟩ (Nat.le_of_ble_eq_true rfl) dX8_readAll_63 ?_
    refine X_if_eq (tgt := 78) dX8_readAll_66 (by decide) (fun c19 => ?_) (fun c19 => ?_)
    · replace hm := ip c19 hm
      refine X_aload_n 0 dX8_readAll_78 rfl rfl rfl ?_
      refine X_getPe fl_X8_18 h0 rfl (gl7_P0 G h0) dX8_readAll_79 ?_
      obtain ⟨q20, e21, hm⟩ := ob hm
      refine X_cV0 (ci := 8) (kX9_step d (by omega) G e21) ml_X8_38 mi_X9_step rfl cf_8 (g_K3 G) rfl rfl (Nat.le_refl _) ⟨Nat.le_refl _, Nat.le_refl _⟩ (Nat.le_of_ble_eq_true rfl) dX8_readAll_82 ?_
      refine X_aload_n 0 dX8_readAll_85 rfl rfl rfl ?_
      refine X_iload_n 2 dX8_readAll_86 rfl rfl ?_
      obtain ⟨q22, e23, hm⟩ := ob hm
      refine X_cV1 (ci := 7) (kX8_readClause d (by omega) G h0 e23) ml_X8_41 mi_X8_readClause rfl cf_7 h0 rfl rfl (Nat.le_refl _) ⟨Nat.le_refl _, Nat.le_refl _⟩ (Nat.le_of_ble_eq_true rfl) dX8_readAll_87 ?_
      refine X_if_ne (tgt := 95) dX8_readAll_90 (by decide) (fun c24 => ?_) (fun c24 => ?_)
      · replace hm := iq c24 hm
        refine X_aload_n 0 dX8_readAll_95 rfl rfl rfl ?_
        refine X_getPe fl_X8_18 h0 rfl (gl7_P0 G h0) dX8_readAll_96 ?_
        obtain ⟨q25, e26, hm⟩ := ob hm
        refine X_cV1 (ci := 8) (kX9_kind d (by omega) G e26) ml_X8_22 mi_X9_kind rfl cf_8 (g_K3 G) rfl rfl (Nat.le_refl _) ⟨Nat.le_refl _, Nat.le_refl _⟩ (Nat.le_of_ble_eq_true rfl) dX8_readAll_99 ?_
        refine X_bipush (v := (36 : Int32)) dX8_readAll_102 (by decide) ?_
        refine X_icmp_ne (tgt := 113) dX8_readAll_104 (by decide) (fun c27 => ?_) (fun c27 => ?_)
        · replace hm := iq c27 hm
          refine X_aload_n 0 dX8_readAll_113 rfl rfl rfl ?_
          refine X_getPe fl_X8_18 h0 rfl (gl7_P0 G h0) dX8_readAll_114 ?_
          obtain ⟨q28, e29, hm⟩ := ob hm
          refine X_cV1 (ci := 8) (kX9_kind d (by omega) G e29) ml_X8_22 mi_X9_kind rfl cf_8 (g_K3 G) rfl rfl (Nat.le_refl _) ⟨Nat.le_refl _, Nat.le_refl _⟩ (Nat.le_of_ble_eq_true rfl) dX8_readAll_117 ?_
          refine X_bipush (v := (32 : Int32)) dX8_readAll_120 (by decide) ?_
          refine X_icmp_eq (tgt := 134) dX8_readAll_122 (by decide) (fun c30 => ?_) (fun c30 => ?_)
          · replace hm := ip c30 hm
            refine X_aload_n 0 dX8_readAll_134 rfl rfl rfl ?_
            refine X_getPe fl_X8_18 h0 rfl (gl7_P0 G h0) dX8_readAll_135 ?_
            obtain ⟨q31, e32, hm⟩ := ob hm
            refine X_cV0 (ci := 8) (kX9_step d (by omega) G e32) ml_X8_38 mi_X9_step rfl cf_8 (g_K3 G) rfl rfl (Nat.le_refl _) ⟨Nat.le_refl _, Nat.le_refl _⟩ (Nat.le_of_ble_eq_true rfl) dX8_readAll_138 ?_
            refine X_iinc (lv' := [(1, .int (a1 + 1)), (0, .ref a0), (2, .int a2)]) 1 dX8_readAll_141 rfl rfl (by decide) rfl ?_
            refine X_goto (tgt := 2) dX8_readAll_144 (by decide) ?_
            exact X_lv [1, 0] rfl (hb2 _ _ _ _ h0 hm)
          · replace hm := iq c30 hm
            refine X_aload_n 0 dX8_readAll_125 rfl rfl rfl ?_
            refine X_getPe fl_X8_18 h0 rfl (gl7_P0 G h0) dX8_readAll_126 ?_
            refine X_iconst (v := (0 : Int32)) dX8_readAll_129 (by decide) ?_
            obtain ⟨q33, e34, hm⟩ := ob hm
            refine X_cV1 (ci := 8) (kX9_fail d (by omega) G e34) ml_X8_32 mi_X9_fail rfl cf_8 (g_K3 G) rfl rfl (Nat.le_refl _) ⟨Nat.le_refl _, Nat.le_refl _⟩ (Nat.le_of_ble_eq_true rfl) dX8_readAll_130 ?_
            obtain ⟨g35, hm⟩ := og hm
            replace hm := Option.some.inj hm
            subst hm
            exact X_zret dX8_readAll_133 rfl (x_nz g35)
        · replace hm := ip c27 hm
          refine X_aload_n 0 dX8_readAll_107 rfl rfl rfl ?_
          obtain ⟨q36, e37, hm⟩ := ob hm
          refine X_cV0 (ci := 7) (kX8_finish d (by omega) G h0 e37) ml_X8_44 mi_X8_finish rfl cf_7 h0 rfl rfl (Nat.le_refl _) ⟨Nat.le_refl _, Nat.le_refl _⟩ (Nat.le_of_ble_eq_true rfl) dX8_readAll_108 ?_
          refine X_iconst (v := (1 : Int32)) dX8_readAll_111 (by decide) ?_
          replace hm := Option.some.inj hm
          subst hm
          exact X_zret (v := (1 : Int32)) dX8_readAll_112 rfl (x_nz (Or.inr rfl))
      · replace hm := ip c24 hm
        refine X_iconst (v := (0 : Int32)) dX8_readAll_93 (by decide) ?_
        replace hm := Option.some.inj hm
        subst hm
        exact X_zret (v := (0 : Int32)) dX8_readAll_94 rfl (x_nz (Or.inl rfl))
    · replace hm := iq c19 hm
      refine X_aload_n 0 dX8_readAll_69 rfl rfl rfl ?_
      refine X_getPe fl_X8_18 h0 rfl (gl7_P0 G h0) dX8_readAll_70 ?_
      refine X_iconst (v := (4 : Int32)) dX8_readAll_73 (by decide) ?_
      obtain ⟨q38, e39, hm⟩ := ob hm
      refine X_cV1 (ci := 8) (kX9_fail d (by omega) G e39) ml_X8_32 mi_X9_fail rfl cf_8 (g_K3 G) rfl rfl (Nat.le_refl _) ⟨Nat.le_refl _, Nat.le_refl _⟩ (Nat.le_of_ble_eq_true rfl) dX8_readAll_74 ?_
      obtain ⟨g40, hm⟩ := og hm
      replace hm := Option.some.inj hm
      subst hm
      exact X_zret dX8_readAll_77 rfl (x_nz g40)
def mX8_readAll_47 (b2 : (Nat → Nat → Int32) → (Nat → Nat → Int64) → Nat → Int32 → Option (Int32 × (Nat → Nat → Int32) × (Nat → Nat → Int64))) (I : Nat → Nat → Int32) (L : Nat → Nat → Int64) (a0 : Nat) (a1 : Int32) (a2 : Int32) (t0 : Int32) : Option (Int32 × (Nat → Nat → Int32) × (Nat → Nat → Int64)) := (if a2 = (13 : Int32) then (mX8_readAll_58 b2 I L a0 a1 a2 (1 : Int32) t0) else (mX8_readAll_58 b2 I L a0 a1 a2 (0 : Int32) t0))
set_option maxHeartbeats 400000 in
set_option maxRecDepth 100000 in
theorem kX8_readAll_47 {E : xE} {B : Nat} {n : Nat} {K : Nat → Nat × Nat} {P : Nat → Nat → Nat} {I : Nat → Nat → Int32} {L : Nat → Nat → Int64}  {b2 : (Nat → Nat → Int32) → (Nat → Nat → Int64) → Nat → Int32 → Option (Int32 × (Nat → Nat → Int32) × (Nat → Nat → Int64))} {a0 : Nat} {a1 : Int32} {a2 : Int32} {t0 : Int32} {q : Int32 × (Nat → Nat → Int32) × (Nat → Nat → Int64)} (d : Nat) (hd : 4 ≤ d) (G : GW K P)  (hb2 : ∀ (I : Nat → Nat → Int32) (L : Nat → Nat → Int64) (a0 : Nat) (a1 : Int32), K a0 = (7, 0) → b2 I L a0 a1 = some q → X E B d 0 0 yX8_readAll cX8_readAll 3 (some .boolean) (some (.int q.1), (n, K, P, q.2.1, q.2.2)) 2 [(0, .ref a0), (1, .int a1)] [] 0 0 (n, K, P, I, L)) (h0 : K a0 = (7, 0)) (hm : mX8_readAll_47 b2 I L a0 a1 a2 t0 = some q) : X E B d 0 0 yX8_readAll cX8_readAll 3 (some .boolean) (some (.int q.1), (n, K, P, q.2.1, q.2.2)) 47 [(0, .ref a0), (1, .int a1), (2, .int a2)] [.int t0] 0 0 (n, K, P, I, L) := by
  obtain ⟨d, rfl⟩ : ∃ d0, d = d0 + 1 := ⟨d - 1, by omega⟩
  unfold mX8_readAll_47 at hm
  refine X_iload_n 2 dX8_readAll_47 rfl rfl ?_
  refine X_bipush (v := (13 : Int32)) dX8_readAll_48 (by decide) ?_
  refine X_icmp_ne (tgt := 57) dX8_readAll_50 (by decide) (fun c12 => ?_) (fun c12 => ?_)
  · replace hm := iq c12 hm
    refine X_iconst (v := (0 : Int32)) dX8_readAll_57 (by decide) ?_
    exact kX8_readAll_58 _ hd G hb2 h0 hm
  · replace hm := ip c12 hm
    refine X_iconst (v := (1 : Int32)) dX8_readAll_53 (by decide) ?_
    refine X_goto (tgt := 58) dX8_readAll_54 (by decide) ?_
    exact kX8_readAll_58 _ hd G hb2 h0 hm
def mX8_readAll_2   : Nat → (Nat → Nat → Int32) → (Nat → Nat → Int64) → Nat → Int32 → Option (Int32 × (Nat → Nat → Int32) × (Nat → Nat → Int64))
  | 0, _, _, _, _ => none
  | f + 1, I, L, a0, a1 => (if (40 : Int32) < a1 then (some ((0 : Int32), I, L)) else (Option.bind (mX9_kind I) (fun q2 => (Option.bind (mX8_beginsClause q2) (fun q4 => (if q4 = 0 then (Option.bind (mX9_fail I (0 : Int32)) (fun q41 => (if q41.1 = 0 ∨ q41.1 = 1 then (some (q41.1, q41.2, L)) else none))) else (if a1 = (40 : Int32) then (Option.bind (mX9_fail I (4 : Int32)) (fun q8 => (if q8.1 = 0 ∨ q8.1 = 1 then (some (q8.1, q8.2, L)) else none))) else (if a1 = 0 then (mX8_readAll_47 (fun (I : Nat → Nat → Int32) (L : Nat → Nat → Int64) (a0 : Nat) (a1 : Int32) => mX8_readAll_2  f I L a0 a1) I L a0 a1 q2 (1 : Int32)) else (mX8_readAll_47 (fun (I : Nat → Nat → Int32) (L : Nat → Nat → Int64) (a0 : Nat) (a1 : Int32) => mX8_readAll_2  f I L a0 a1) I L a0 a1 q2 (0 : Int32))))))))))
set_option maxHeartbeats 400000 in
set_option maxRecDepth 100000 in
theorem kX8_readAll_2 {E : xE} {B : Nat} {n : Nat} {K : Nat → Nat × Nat} {P : Nat → Nat → Nat}   {q : Int32 × (Nat → Nat → Int32) × (Nat → Nat → Int64)} (d : Nat) (hd : 4 ≤ d) (G : GW K P)   : ∀ (f : Nat) (I : Nat → Nat → Int32) (L : Nat → Nat → Int64) (a0 : Nat) (a1 : Int32), K a0 = (7, 0) → mX8_readAll_2 f I L a0 a1 = some q → X E B d 0 0 yX8_readAll cX8_readAll 3 (some .boolean) (some (.int q.1), (n, K, P, q.2.1, q.2.2)) 2 [(0, .ref a0), (1, .int a1)] [] 0 0 (n, K, P, I, L) := by
  obtain ⟨d, rfl⟩ : ∃ d0, d = d0 + 1 := ⟨d - 1, by omega⟩
  intro f
  induction f with
  | zero => intro _ _ _ _ _ hm; exact nomatch (show (none : Option (Int32 × (Nat → Nat → Int32) × (Nat → Nat → Int64))) = some q from hm)
  | succ f ih =>
    intro I L a0 a1 h0 hm
    rw [mX8_readAll_2] at hm
    refine X_iload_n 1 dX8_readAll_2 rfl rfl ?_
    refine X_bipush (v := (40 : Int32)) dX8_readAll_3 (by decide) ?_
    refine X_icmp_gt (tgt := 147) dX8_readAll_5 (by decide) (fun c1 => ?_) (fun c1 => ?_)
    · replace hm := ip c1 hm
      refine X_iconst (v := (0 : Int32)) dX8_readAll_147 (by decide) ?_
      replace hm := Option.some.inj hm
      subst hm
      exact X_zret (v := (0 : Int32)) dX8_readAll_148 rfl (x_nz (Or.inl rfl))
    · replace hm := iq c1 hm
      refine X_aload_n 0 dX8_readAll_8 rfl rfl rfl ?_
      refine X_getPe fl_X8_18 h0 rfl (gl7_P0 G h0) dX8_readAll_9 ?_
      obtain ⟨q2, e3, hm⟩ := ob hm
      refine X_cV1 (ci := 8) (kX9_kind d (by omega) G e3) ml_X8_22 mi_X9_kind rfl cf_8 (g_K3 G) rfl rfl (Nat.le_refl _) ⟨Nat.le_refl _, Nat.le_refl _⟩ (Nat.le_of_ble_eq_true rfl) dX8_readAll_12 ?_
      refine X_istore_n (lv' := [(2, .int q2), (0, .ref a0), (1, .int a1)]) dX8_readAll_15 rfl (by decide) rfl ?_
      refine X_iload_n 0 dX8_readAll_16 rfl rfl ?_
      obtain ⟨q4, e5, hm⟩ := ob hm
      refine X_cS1 (kX8_beginsClause d (by omega) G e5) ml_X8_28 ms_X8_beginsClause rfl rfl (Nat.le_refl _) ⟨Nat.le_refl _, Nat.le_refl _⟩ (Nat.le_of_ble_eq_true rfl) dX8_readAll_17 ?_
      refine X_if_ne (tgt := 32) dX8_readAll_20 (by decide) (fun c6 => ?_) (fun c6 => ?_)
      · replace hm := iq c6 hm
        refine X_iload_n 2 dX8_readAll_32 rfl rfl ?_
        refine X_bipush (v := (40 : Int32)) dX8_readAll_33 (by decide) ?_
        refine X_icmp_eq (tgt := 69) dX8_readAll_35 (by decide) (fun c7 => ?_) (fun c7 => ?_)
        · replace hm := ip c7 hm
          refine X_aload_n 1 dX8_readAll_69 rfl rfl rfl ?_
          refine X_getPe fl_X8_18 h0 rfl (gl7_P0 G h0) dX8_readAll_70 ?_
          refine X_iconst (v := (4 : Int32)) dX8_readAll_73 (by decide) ?_
          obtain ⟨q8, e9, hm⟩ := ob hm
          refine X_cV1 (ci := 8) (kX9_fail d (by omega) G e9) ml_X8_32 mi_X9_fail rfl cf_8 (g_K3 G) rfl rfl (Nat.le_refl _) ⟨Nat.le_refl _, Nat.le_refl _⟩ (Nat.le_of_ble_eq_true rfl) dX8_readAll_74 ?_
          obtain ⟨g10, hm⟩ := og hm
          replace hm := Option.some.inj hm
          subst hm
          exact X_zret dX8_readAll_77 rfl (x_nz g10)
        · replace hm := iq c7 hm
          refine X_iload_n 2 dX8_readAll_38 rfl rfl ?_
          refine X_if_ne (tgt := 46) dX8_readAll_39 (by decide) (fun c11 => ?_) (fun c11 => ?_)
          · replace hm := iq c11 hm
            refine X_iconst (v := (0 : Int32)) dX8_readAll_46 (by decide) ?_
            exact X_lv [1, 2, 0] rfl (kX8_readAll_47 _ hd G ih h0 hm)
          · replace hm := ip c11 hm
            refine X_iconst (v := (1 : Int32)) dX8_readAll_42 (by decide) ?_
            refine X_goto (tgt := 47) dX8_readAll_43 (by decide) ?_
            exact X_lv [1, 2, 0] rfl (kX8_readAll_47 _ hd G ih h0 hm)
      · replace hm := ip c6 hm
        refine X_aload_n 1 dX8_readAll_23 rfl rfl rfl ?_
        refine X_getPe fl_X8_18 h0 rfl (gl7_P0 G h0) dX8_readAll_24 ?_
        refine X_iconst (v := (0 : Int32)) dX8_readAll_27 (by decide) ?_
        obtain ⟨q41, e42, hm⟩ := ob hm
        refine X_cV1 (ci := 8) (kX9_fail d (by omega) G e42) ml_X8_32 mi_X9_fail rfl cf_8 (g_K3 G) rfl rfl (Nat.le_refl _) ⟨Nat.le_refl _, Nat.le_refl _⟩ (Nat.le_of_ble_eq_true rfl) dX8_readAll_28 ?_
        obtain ⟨g43, hm⟩ := og hm
        replace hm := Option.some.inj hm
        subst hm
        exact X_zret dX8_readAll_31 rfl (x_nz g43)
def mX8_readAll  (I : Nat → Nat → Int32) (L : Nat → Nat → Int64) (a0 : Nat) : Option (Int32 × (Nat → Nat → Int32) × (Nat → Nat → Int64)) := (mX8_readAll_2 xf I L a0 (0 : Int32))
set_option maxHeartbeats 400000 in
set_option maxRecDepth 100000 in
theorem kX8_readAll {E : xE} {B : Nat} {n : Nat} {K : Nat → Nat × Nat} {P : Nat → Nat → Nat} {I : Nat → Nat → Int32} {L : Nat → Nat → Int64}  {a0 : Nat} {q : Int32 × (Nat → Nat → Int32) × (Nat → Nat → Int64)} (d : Nat) (hd : 4 ≤ d) (G : GW K P)  (h0 : K a0 = (7, 0)) (hm : mX8_readAll I L a0 = some q) : MX E B d 0 0 yX8_readAll cX8_readAll 3 (some .boolean) [.ref a0] (n, K, P, I, L) (some (.int q.1), (n, K, P, q.2.1, q.2.2)) := by
  refine MX_of (lv := [(0, .ref a0)]) (by decide +kernel) (Nat.le_of_ble_eq_true rfl) rfl ?_
  obtain ⟨d, rfl⟩ : ∃ d0, d = d0 + 1 := ⟨d - 1, by omega⟩
  unfold mX8_readAll at hm
  refine X_iconst (v := (0 : Int32)) dX8_readAll_0 (by decide) ?_
  refine X_istore_n (lv' := [(1, .int (0 : Int32)), (0, .ref a0)]) dX8_readAll_1 rfl (by decide) rfl ?_
  refine X_lv [1, 0] rfl (kX8_readAll_2 _ hd G xf _ _ _ _ h0 hm)
def mX9_isLetter  (a0 : Int32) : Option (Int32) := (if a0 < (97 : Int32) then (some (0 : Int32)) else (if (122 : Int32) < a0 then (some (0 : Int32)) else (some (1 : Int32))))
set_option maxHeartbeats 400000 in
set_option maxRecDepth 100000 in
theorem kX9_isLetter {E : xE} {B : Nat} {n : Nat} {K : Nat → Nat × Nat} {P : Nat → Nat → Nat} {I : Nat → Nat → Int32} {L : Nat → Nat → Int64}  {a0 : Int32} {q : Int32} (d : Nat) (hd : 0 ≤ d) (G : GW K P)   (hm : mX9_isLetter a0 = some q) : MX E B d 0 0 yX9_isLetter cX9_isLetter 1 (some .boolean) [.int a0] (n, K, P, I, L) (some (.int q), (n, K, P, I, L)) := by
  refine MX_of (lv := [(0, .int a0)]) (by decide +kernel) (Nat.le_of_ble_eq_true rfl) rfl ?_
  unfold mX9_isLetter at hm
  refine X_iload_n 0 dX9_isLetter_0 rfl rfl ?_
  refine X_bipush (v := (97 : Int32)) dX9_isLetter_1 (by decide) ?_
  refine X_icmp_lt (tgt := 16) dX9_isLetter_3 (by decide) (fun c1 => ?_) (fun c1 => ?_)
  · replace hm := ip c1 hm
    refine X_iconst (v := (0 : Int32)) dX9_isLetter_16 (by decide) ?_
    replace hm := Option.some.inj hm
    subst hm
    exact X_zret (v := (0 : Int32)) dX9_isLetter_17 rfl (x_nz (Or.inl rfl))
  · replace hm := iq c1 hm
    refine X_iload_n 0 dX9_isLetter_6 rfl rfl ?_
    refine X_bipush (v := (122 : Int32)) dX9_isLetter_7 (by decide) ?_
    refine X_icmp_gt (tgt := 16) dX9_isLetter_9 (by decide) (fun c2 => ?_) (fun c2 => ?_)
    · replace hm := ip c2 hm
      refine X_iconst (v := (0 : Int32)) dX9_isLetter_16 (by decide) ?_
      replace hm := Option.some.inj hm
      subst hm
      exact X_zret (v := (0 : Int32)) dX9_isLetter_17 rfl (x_nz (Or.inl rfl))
    · replace hm := iq c2 hm
      refine X_iconst (v := (1 : Int32)) dX9_isLetter_12 (by decide) ?_
      refine X_goto (tgt := 17) dX9_isLetter_13 (by decide) ?_
      replace hm := Option.some.inj hm
      subst hm
      exact X_zret (v := (1 : Int32)) dX9_isLetter_17 rfl (x_nz (Or.inr rfl))
def mX9_isDigit  (a0 : Int32) : Option (Int32) := (if a0 < (48 : Int32) then (some (0 : Int32)) else (if (57 : Int32) < a0 then (some (0 : Int32)) else (some (1 : Int32))))
set_option maxHeartbeats 400000 in
set_option maxRecDepth 100000 in
theorem kX9_isDigit {E : xE} {B : Nat} {n : Nat} {K : Nat → Nat × Nat} {P : Nat → Nat → Nat} {I : Nat → Nat → Int32} {L : Nat → Nat → Int64}  {a0 : Int32} {q : Int32} (d : Nat) (hd : 0 ≤ d) (G : GW K P)   (hm : mX9_isDigit a0 = some q) : MX E B d 0 0 yX9_isDigit cX9_isDigit 1 (some .boolean) [.int a0] (n, K, P, I, L) (some (.int q), (n, K, P, I, L)) := by
  refine MX_of (lv := [(0, .int a0)]) (by decide +kernel) (Nat.le_of_ble_eq_true rfl) rfl ?_
  unfold mX9_isDigit at hm
  refine X_iload_n 0 dX9_isDigit_0 rfl rfl ?_
  refine X_bipush (v := (48 : Int32)) dX9_isDigit_1 (by decide) ?_
  refine X_icmp_lt (tgt := 16) dX9_isDigit_3 (by decide) (fun c1 => ?_) (fun c1 => ?_)
  · replace hm := ip c1 hm
    refine X_iconst (v := (0 : Int32)) dX9_isDigit_16 (by decide) ?_
    replace hm := Option.some.inj hm
    subst hm
    exact X_zret (v := (0 : Int32)) dX9_isDigit_17 rfl (x_nz (Or.inl rfl))
  · replace hm := iq c1 hm
    refine X_iload_n 0 dX9_isDigit_6 rfl rfl ?_
    refine X_bipush (v := (57 : Int32)) dX9_isDigit_7 (by decide) ?_
    refine X_icmp_gt (tgt := 16) dX9_isDigit_9 (by decide) (fun c2 => ?_) (fun c2 => ?_)
    · replace hm := ip c2 hm
      refine X_iconst (v := (0 : Int32)) dX9_isDigit_16 (by decide) ?_
      replace hm := Option.some.inj hm
      subst hm
      exact X_zret (v := (0 : Int32)) dX9_isDigit_17 rfl (x_nz (Or.inl rfl))
    · replace hm := iq c2 hm
      refine X_iconst (v := (1 : Int32)) dX9_isDigit_12 (by decide) ?_
      refine X_goto (tgt := 17) dX9_isDigit_13 (by decide) ?_
      replace hm := Option.some.inj hm
      subst hm
      exact X_zret (v := (1 : Int32)) dX9_isDigit_17 rfl (x_nz (Or.inr rfl))
def mX9_runEnd_79 (I : Nat → Nat → Int32) (a0 : Nat) (z0 : Nat) (a2 : Int32) (a4 : Int32) : Option (Int32) := (if a2 ≤ a4 then (some a4) else (if inb a4 z0 = true then (if (I a0 (ix a4)) = (61 : Int32) then (some (a4 + 1)) else (some a4)) else none))
set_option maxHeartbeats 400000 in
set_option maxRecDepth 100000 in
theorem kX9_runEnd_79 {E : xE} {B : Nat} {n : Nat} {K : Nat → Nat × Nat} {P : Nat → Nat → Nat} {I : Nat → Nat → Int32} {L : Nat → Nat → Int64}   {a0 : Nat} {z0 : Nat} {a2 : Int32} {a4 : Int32} {q : Int32} (d : Nat) (hd : 1 ≤ d) (G : GW K P)   (h0 : K a0 = (22, z0)) (hm : mX9_runEnd_79 I a0 z0 a2 a4 = some q) : X E B d 0 0 yX9_runEnd cX9_runEnd 5 (some .int) (some (.int q), (n, K, P, I, L)) 79 [(0, .ref a0), (2, .int a2), (4, .int a4)] [] 0 0 (n, K, P, I, L) := by
  obtain ⟨d, rfl⟩ : ∃ d0, d = d0 + 1 := ⟨d - 1, by omega⟩
  unfold mX9_runEnd_79 at hm
  refine X_iload 2 dX9_runEnd_79 rfl ?_
  refine X_iload_n 1 dX9_runEnd_81 rfl rfl ?_
  refine X_icmp_ge (tgt := 97) dX9_runEnd_82 (by decide) (fun c9 => ?_) (fun c9 => ?_)
  · replace hm := ip c9 hm
    refine X_iload 2 dX9_runEnd_97 rfl ?_
    replace hm := Option.some.inj hm
    subst hm
    exact X_iret dX9_runEnd_99 rfl
  · replace hm := iq c9 hm
    refine X_aload_n 0 dX9_runEnd_85 rfl rfl rfl ?_
    refine X_iload 2 dX9_runEnd_86 rfl ?_
    obtain ⟨g10, hm⟩ := og hm
    refine X_baldJ h0 g10 rfl dX9_runEnd_88 ?_
    refine X_bipush (v := (61 : Int32)) dX9_runEnd_89 (by decide) ?_
    refine X_icmp_ne (tgt := 97) dX9_runEnd_91 (by decide) (fun c11 => ?_) (fun c11 => ?_)
    · replace hm := iq c11 hm
      refine X_iload 2 dX9_runEnd_97 rfl ?_
      replace hm := Option.some.inj hm
      subst hm
      exact X_iret dX9_runEnd_99 rfl
    · replace hm := ip c11 hm
      refine X_iinc (lv' := [(4, .int (a4 + 1)), (0, .ref a0), (2, .int a2)]) 2 dX9_runEnd_94 rfl rfl (by decide) rfl ?_
      refine X_iload 0 dX9_runEnd_97 rfl ?_
      replace hm := Option.some.inj hm
      subst hm
      exact X_iret dX9_runEnd_99 rfl
def mX9_runEnd_45 (I : Nat → Nat → Int32)  : Nat → Nat → Nat → Int32 → Int32 → Option (Int32)
  | 0, _, _, _, _ => none
  | f + 1, a0, z0, a2, a4 => (if a2 ≤ a4 then (some a4) else (if inb a4 z0 = true then (Option.bind (mX9_isDigit (I a0 (ix a4))) (fun q15 => (if q15 = 0 then (some a4) else (mX9_runEnd_45 I f a0 z0 a2 (a4 + 1))))) else none))
set_option maxHeartbeats 400000 in
set_option maxRecDepth 100000 in
theorem kX9_runEnd_45 {E : xE} {B : Nat} {n : Nat} {K : Nat → Nat × Nat} {P : Nat → Nat → Nat} {I : Nat → Nat → Int32} {L : Nat → Nat → Int64}   {q : Int32} (d : Nat) (hd : 1 ≤ d) (G : GW K P)   : ∀ (f : Nat) (a0 : Nat) (z0 : Nat) (a2 : Int32) (a4 : Int32), K a0 = (22, z0) → mX9_runEnd_45 I f a0 z0 a2 a4 = some q → X E B d 0 0 yX9_runEnd cX9_runEnd 5 (some .int) (some (.int q), (n, K, P, I, L)) 45 [(0, .ref a0), (2, .int a2), (4, .int a4)] [] 0 0 (n, K, P, I, L) := by
  obtain ⟨d, rfl⟩ : ∃ d0, d = d0 + 1 := ⟨d - 1, by omega⟩
  intro f
  induction f with
  | zero => intro _ _ _ _ _ hm; exact nomatch (show (none : Option (Int32)) = some q from hm)
  | succ f ih =>
    intro a0 z0 a2 a4 h0 hm
    rw [mX9_runEnd_45] at hm
    refine X_iload 2 dX9_runEnd_45 rfl ?_
    refine X_iload_n 1 dX9_runEnd_47 rfl rfl ?_
    refine X_icmp_ge (tgt := 97) dX9_runEnd_48 (by decide) (fun c13 => ?_) (fun c13 => ?_)
    · replace hm := ip c13 hm
      refine X_iload 2 dX9_runEnd_97 rfl ?_
      replace hm := Option.some.inj hm
      subst hm
      exact X_iret dX9_runEnd_99 rfl
    · replace hm := iq c13 hm
      refine X_aload_n 0 dX9_runEnd_51 rfl rfl rfl ?_
      refine X_iload 2 dX9_runEnd_52 rfl ?_
      obtain ⟨g14, hm⟩ := og hm
      refine X_baldJ h0 g14 rfl dX9_runEnd_54 ?_
      obtain ⟨q15, e16, hm⟩ := ob hm
      refine X_cS1 (kX9_isDigit d (by omega) G e16) ml_X9_55 ms_X9_isDigit rfl rfl (Nat.le_refl _) ⟨Nat.le_refl _, Nat.le_refl _⟩ (Nat.le_of_ble_eq_true rfl) dX9_runEnd_55 ?_
      refine X_if_eq (tgt := 97) dX9_runEnd_58 (by decide) (fun c17 => ?_) (fun c17 => ?_)
      · replace hm := ip c17 hm
        refine X_iload 2 dX9_runEnd_97 rfl ?_
        replace hm := Option.some.inj hm
        subst hm
        exact X_iret dX9_runEnd_99 rfl
      · replace hm := iq c17 hm
        refine X_iinc (lv' := [(4, .int (a4 + 1)), (0, .ref a0), (2, .int a2)]) 2 dX9_runEnd_61 rfl rfl (by decide) rfl ?_
        refine X_goto (tgt := 45) dX9_runEnd_64 (by decide) ?_
        exact X_lv [1, 2, 0] rfl (ih _ _ _ _ h0 hm)
def mX9_runEnd_16 (I : Nat → Nat → Int32)  : Nat → Nat → Nat → Int32 → Int32 → Option (Int32)
  | 0, _, _, _, _ => none
  | f + 1, a0, z0, a2, a4 => (if a2 ≤ a4 then (some a4) else (if inb a4 z0 = true then (Option.bind (mX9_isLetter (I a0 (ix a4))) (fun q20 => (if q20 = 0 then (some a4) else (mX9_runEnd_16 I f a0 z0 a2 (a4 + 1))))) else none))
set_option maxHeartbeats 400000 in
set_option maxRecDepth 100000 in
theorem kX9_runEnd_16 {E : xE} {B : Nat} {n : Nat} {K : Nat → Nat × Nat} {P : Nat → Nat → Nat} {I : Nat → Nat → Int32} {L : Nat → Nat → Int64}   {q : Int32} (d : Nat) (hd : 1 ≤ d) (G : GW K P)   : ∀ (f : Nat) (a0 : Nat) (z0 : Nat) (a2 : Int32) (a4 : Int32), K a0 = (22, z0) → mX9_runEnd_16 I f a0 z0 a2 a4 = some q → X E B d 0 0 yX9_runEnd cX9_runEnd 5 (some .int) (some (.int q), (n, K, P, I, L)) 16 [(0, .ref a0), (2, .int a2), (4, .int a4)] [] 0 0 (n, K, P, I, L) := by
  obtain ⟨d, rfl⟩ : ∃ d0, d = d0 + 1 := ⟨d - 1, by omega⟩
  intro f
  induction f with
  | zero => intro _ _ _ _ _ hm; exact nomatch (show (none : Option (Int32)) = some q from hm)
  | succ f ih =>
    intro a0 z0 a2 a4 h0 hm
    rw [mX9_runEnd_16] at hm
    refine X_iload 2 dX9_runEnd_16 rfl ?_
    refine X_iload_n 1 dX9_runEnd_18 rfl rfl ?_
    refine X_icmp_ge (tgt := 97) dX9_runEnd_19 (by decide) (fun c18 => ?_) (fun c18 => ?_)
    · replace hm := ip c18 hm
      refine X_iload 2 dX9_runEnd_97 rfl ?_
      replace hm := Option.some.inj hm
      subst hm
      exact X_iret dX9_runEnd_99 rfl
    · replace hm := iq c18 hm
      refine X_aload_n 0 dX9_runEnd_22 rfl rfl rfl ?_
      refine X_iload 2 dX9_runEnd_23 rfl ?_
      obtain ⟨g19, hm⟩ := og hm
      refine X_baldJ h0 g19 rfl dX9_runEnd_25 ?_
      obtain ⟨q20, e21, hm⟩ := ob hm
      refine X_cS1 (kX9_isLetter d (by omega) G e21) ml_X9_51 ms_X9_isLetter rfl rfl (Nat.le_refl _) ⟨Nat.le_refl _, Nat.le_refl _⟩ (Nat.le_of_ble_eq_true rfl) dX9_runEnd_26 ?_
      refine X_if_eq (tgt := 97) dX9_runEnd_29 (by decide) (fun c22 => ?_) (fun c22 => ?_)
      · replace hm := ip c22 hm
        refine X_iload 2 dX9_runEnd_97 rfl ?_
        replace hm := Option.some.inj hm
        subst hm
        exact X_iret dX9_runEnd_99 rfl
      · replace hm := iq c22 hm
        refine X_iinc (lv' := [(4, .int (a4 + 1)), (0, .ref a0), (2, .int a2)]) 2 dX9_runEnd_32 rfl rfl (by decide) rfl ?_
        refine X_goto (tgt := 16) dX9_runEnd_35 (by decide) ?_
        exact X_lv [1, 2, 0] rfl (ih _ _ _ _ h0 hm)
def mX9_runEnd (I : Nat → Nat → Int32) (a0 : Nat) (z0 : Nat) (a1 : Int32) (a2 : Int32) : Option (Int32) := (if inb a1 z0 = true then (Option.bind (mX9_isLetter (I a0 (ix a1))) (fun q2 => (if q2 = 0 then (Option.bind (mX9_isDigit (I a0 (ix a1))) (fun q5 => (if q5 = 0 then (if (I a0 (ix a1)) = (60 : Int32) then (mX9_runEnd_79 I a0 z0 a2 (a1 + (1 : Int32))) else (if (I a0 (ix a1)) = (62 : Int32) then (mX9_runEnd_79 I a0 z0 a2 (a1 + (1 : Int32))) else (some (a1 + (1 : Int32))))) else (mX9_runEnd_45 I xf a0 z0 a2 (a1 + (1 : Int32)))))) else (mX9_runEnd_16 I xf a0 z0 a2 (a1 + (1 : Int32)))))) else none)
set_option maxHeartbeats 400000 in
set_option maxRecDepth 100000 in
theorem kX9_runEnd {E : xE} {B : Nat} {n : Nat} {K : Nat → Nat × Nat} {P : Nat → Nat → Nat} {I : Nat → Nat → Int32} {L : Nat → Nat → Int64}  {a0 : Nat} {z0 : Nat} {a1 : Int32} {a2 : Int32} {q : Int32} (d : Nat) (hd : 1 ≤ d) (G : GW K P)  (h0 : K a0 = (22, z0)) (hm : mX9_runEnd I a0 z0 a1 a2 = some q) : MX E B d 0 0 yX9_runEnd cX9_runEnd 5 (some .int) [.ref a0, .int a1, .int a2] (n, K, P, I, L) (some (.int q), (n, K, P, I, L)) := by
  refine MX_of (lv := [(0, .ref a0), (1, .int a1), (2, .int a2)]) (by decide +kernel) (Nat.le_of_ble_eq_true rfl) rfl ?_
  obtain ⟨d, rfl⟩ : ∃ d0, d = d0 + 1 := ⟨d - 1, by omega⟩
  unfold mX9_runEnd at hm
  refine X_aload_n 0 dX9_runEnd_0 rfl rfl rfl ?_
  refine X_iload_n 1 dX9_runEnd_1 rfl rfl ?_
  obtain ⟨g1, hm⟩ := og hm
  refine X_baldJ h0 g1 rfl dX9_runEnd_2 ?_
  refine X_istore_n (lv' := [(3, .int (I a0 (ix a1))), (0, .ref a0), (1, .int a1), (2, .int a2)]) dX9_runEnd_3 rfl (by decide) rfl ?_
  refine X_iload_n 2 dX9_runEnd_4 rfl rfl ?_
  refine X_iconst (v := (1 : Int32)) dX9_runEnd_5 (by decide) ?_
  refine X_iadd dX9_runEnd_6 ?_
  refine X_istore (lv' := [(4, .int (a1 + (1 : Int32))), (3, .int (I a0 (ix a1))), (0, .ref a0), (1, .int a1), (2, .int a2)]) dX9_runEnd_7 (by decide) rfl ?_
  refine X_iload_n 1 dX9_runEnd_9 rfl rfl ?_
  obtain ⟨q2, e3, hm⟩ := ob hm
  refine X_cS1 (kX9_isLetter d (by omega) G e3) ml_X9_51 ms_X9_isLetter rfl rfl (Nat.le_refl _) ⟨Nat.le_refl _, Nat.le_refl _⟩ (Nat.le_of_ble_eq_true rfl) dX9_runEnd_10 ?_
  refine X_if_eq (tgt := 38) dX9_runEnd_13 (by decide) (fun c4 => ?_) (fun c4 => ?_)
  · replace hm := ip c4 hm
    refine X_iload_n 1 dX9_runEnd_38 rfl rfl ?_
    obtain ⟨q5, e6, hm⟩ := ob hm
    refine X_cS1 (kX9_isDigit d (by omega) G e6) ml_X9_55 ms_X9_isDigit rfl rfl (Nat.le_refl _) ⟨Nat.le_refl _, Nat.le_refl _⟩ (Nat.le_of_ble_eq_true rfl) dX9_runEnd_39 ?_
    refine X_if_eq (tgt := 67) dX9_runEnd_42 (by decide) (fun c7 => ?_) (fun c7 => ?_)
    · replace hm := ip c7 hm
      refine X_iload_n 1 dX9_runEnd_67 rfl rfl ?_
      refine X_bipush (v := (60 : Int32)) dX9_runEnd_68 (by decide) ?_
      refine X_icmp_eq (tgt := 79) dX9_runEnd_70 (by decide) (fun c8 => ?_) (fun c8 => ?_)
      · replace hm := ip c8 hm
        exact X_lv [2, 4, 0] rfl (kX9_runEnd_79 _ hd G h0 hm)
      · replace hm := iq c8 hm
        refine X_iload_n 1 dX9_runEnd_73 rfl rfl ?_
        refine X_bipush (v := (62 : Int32)) dX9_runEnd_74 (by decide) ?_
        refine X_icmp_ne (tgt := 97) dX9_runEnd_76 (by decide) (fun c12 => ?_) (fun c12 => ?_)
        · replace hm := iq c12 hm
          refine X_iload 0 dX9_runEnd_97 rfl ?_
          replace hm := Option.some.inj hm
          subst hm
          exact X_iret dX9_runEnd_99 rfl
        · replace hm := ip c12 hm
          exact X_lv [2, 4, 0] rfl (kX9_runEnd_79 _ hd G h0 hm)
    · replace hm := iq c7 hm
      refine X_lv [2, 4, 0] rfl (kX9_runEnd_45 _ hd G xf _ _ _ _ h0 hm)
  · replace hm := iq c4 hm
    refine X_lv [2, 4, 0] rfl (kX9_runEnd_16 _ hd G xf _ _ _ _ h0 hm)

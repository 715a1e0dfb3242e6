/-! The two objects that the law makes, at the places where they come to lie. -/
def h00 : xH := (0, fun _ => (99, 0), fun _ _ => 0, fun _ _ => 0, fun _ _ => 0)
def hx0 : xH := xnew h00 (10, 0)
def hx_130 : xH := (xnew (pP (xnew (pP (xnew (pP (iX5 (xnew (pP (iX1 (xnew (pP (iX2 (xnew (pP (iX6 (xnew (pP (xnew (pP (iX10 (xnew (pP (xnew (pP (iX4 (xnew (pP (iX9 (xnew (pP (xnew hx0 (22, 400)) 1 0 2) (8, 0)) 3) 1 2 3) (3, 0)) 7 3) 1 3 7) (25, 6)) 1 4 11) (9, 0)) 12) 1 6 12) (26, 4)) 1 7 91) (5, 0)) 92) 1 8 92) (1, 0)) 95) 1 9 95) (0, 0)) 102) 1 10 102) (4, 0)) 109) 1 11 109) (20, 6)) 1 12 120) (20, 6)) 1 13 121) (20, 28))
def hxZ : xH := (pI (pI (pP hx_130 1 14 122) 1 1 (0 : Int32)) 1 5 (0 : Int32))
set_option maxHeartbeats 1000000 in
set_option maxRecDepth 100000 in
theorem kX11_init {E : xE} {B : Nat} (d : Nat) (hd : 4 ≤ d) : MX E B d 121 2979 yX11_init cX11_init 1 (none : Option Jvm.ClassFile.FieldType) [.ref 1] hx0 (none, hxZ) := by
  refine MX_of (lv := [(0, .ref 1)]) (by decide +kernel) (Nat.le_of_ble_eq_true rfl) rfl ?_
  obtain ⟨d, rfl⟩ : ∃ d0, d = d0 + 1 := ⟨d - 1, by omega⟩
  refine X_aload_n 0 dX11_init_0 rfl rfl rfl ?_
  refine X_objInit ol_X11_1 oi_i oi_c (by omega) (by omega) (Nat.le_of_ble_eq_true rfl) dX11_init_1 ?_
  refine X_aload_n 0 dX11_init_4 rfl rfl rfl ?_
  refine X_sipush (v := (400 : Int32)) dX11_init_5 (by decide) ?_
  refine X_newaJ (t := 22) (N := 400) (b := 2) rfl (by decide) (by decide) ac_byte (by decide) (by decide +kernel) (by decide) (by decide) ⟨by omega, by omega⟩ dX11_init_8 ?_
  refine X_pP true fl_X11_9 (by decide +kernel) rfl rfl (fun _ => ⟨rfl, rfl⟩) dX11_init_10 ?_
  refine X_aload_n 0 dX11_init_13 rfl rfl rfl ?_
  refine X_newJ (N := 6) (b := 3) nl_X11_13 (by decide +kernel) rfl ⟨by omega, by omega⟩ dX11_init_14 ?_
  refine X_dup dX11_init_17 rfl ?_
  refine X_callIN (host := "LatestCoat") (kX9_init d (by omega) (by decide +kernel) (by decide) (by decide +kernel)) (by decide +kernel) mz_X9_init mc_X9_init (by decide +kernel) (by decide) mi_X9_init rfl (by omega) rfl rfl (Nat.le_refl _) ⟨by omega, by omega⟩ (Nat.le_of_ble_eq_true rfl) dX11_init_18 ?_
  refine X_pP true fl_X11_16 (by decide +kernel) rfl rfl (fun _ => ⟨rfl, rfl⟩) dX11_init_21 ?_
  refine X_aload_n 0 dX11_init_24 rfl rfl rfl ?_
  refine X_newJ (N := 7) (b := 7) nl_X11_20 (by decide +kernel) rfl ⟨by omega, by omega⟩ dX11_init_25 ?_
  refine X_dup dX11_init_28 rfl ?_
  refine X_aload_n 0 dX11_init_29 rfl rfl rfl ?_
  refine X_getPe (z := 0) (b := 3) fl_X11_16 (by decide +kernel) rfl (by decide +kernel) dX11_init_30 ?_
  refine X_callI (kX4_init d (by omega) (by decide +kernel) (by decide) (by decide +kernel)) ml_X11_22 mi_X4_init rfl (by omega) rfl rfl (Nat.le_refl _) ⟨by omega, by omega⟩ (Nat.le_of_ble_eq_true rfl) dX11_init_33 ?_
  refine X_pP true fl_X11_25 (by decide +kernel) rfl rfl (fun _ => ⟨rfl, rfl⟩) dX11_init_36 ?_
  refine X_aload_n 0 dX11_init_39 rfl rfl rfl ?_
  refine X_bipush (v := (6 : Int32)) dX11_init_40 (by decide) ?_
  refine X_anewJ (t := 25) (ci := 2) (N := 6) (b := 11) (by decide) (by decide) cl_X11_29 rfl (fun U hU => ao_Rule hU) (by decide) (by decide +kernel) (by decide) (by decide) ⟨by omega, by omega⟩ dX11_init_42 ?_
  refine X_pP true fl_X11_31 (by decide +kernel) rfl rfl (fun _ => ⟨rfl, rfl⟩) dX11_init_45 ?_
  refine X_aload_n 0 dX11_init_48 rfl rfl rfl ?_
  refine X_newJ (N := 10) (b := 12) nl_X11_35 (by decide +kernel) rfl ⟨by omega, by omega⟩ dX11_init_49 ?_
  refine X_dup dX11_init_52 rfl ?_
  refine X_callI (kX10_init d (by omega) (by decide +kernel) (by decide) (by decide +kernel)) ml_X11_37 mi_X10_init rfl (by omega) rfl rfl (Nat.le_refl _) ⟨by omega, by omega⟩ (Nat.le_of_ble_eq_true rfl) dX11_init_53 ?_
  refine X_pP true fl_X11_38 (by decide +kernel) rfl rfl (fun _ => ⟨rfl, rfl⟩) dX11_init_56 ?_
  refine X_aload_n 0 dX11_init_59 rfl rfl rfl ?_
  refine X_iconst (v := (4 : Int32)) dX11_init_60 (by decide) ?_
  refine X_anewJ (t := 26) (ci := 9) (N := 4) (b := 91) (by decide) (by decide) cl_X11_35 rfl (fun U hU => ao_World hU) (by decide) (by decide +kernel) (by decide) (by decide) ⟨by omega, by omega⟩ dX11_init_61 ?_
  refine X_pP true fl_X11_42 (by decide +kernel) rfl rfl (fun _ => ⟨rfl, rfl⟩) dX11_init_64 ?_
  refine X_aload_n 0 dX11_init_67 rfl rfl rfl ?_
  refine X_newJ (N := 4) (b := 92) nl_X11_46 (by decide +kernel) rfl ⟨by omega, by omega⟩ dX11_init_68 ?_
  refine X_dup dX11_init_71 rfl ?_
  refine X_callIN (host := "LatestCoat") (kX6_init d (by omega) (by decide +kernel) (by decide) (by decide +kernel)) (by decide +kernel) mz_X6_init mc_X6_init (by decide +kernel) (by decide) mi_X6_init rfl (by omega) rfl rfl (Nat.le_refl _) ⟨by omega, by omega⟩ (Nat.le_of_ble_eq_true rfl) dX11_init_72 ?_
  refine X_pP true fl_X11_49 (by decide +kernel) rfl rfl (fun _ => ⟨rfl, rfl⟩) dX11_init_75 ?_
  refine X_aload_n 0 dX11_init_78 rfl rfl rfl ?_
  refine X_newJ (N := 7) (b := 95) nl_X11_53 (by decide +kernel) rfl ⟨by omega, by omega⟩ dX11_init_79 ?_
  refine X_dup dX11_init_82 rfl ?_
  refine X_callIN (host := "LatestCoat") (kX2_init d (by omega) (by decide +kernel) (by decide) (by decide +kernel)) (by decide +kernel) mz_X2_init mc_X2_init (by decide +kernel) (by decide) mi_X2_init rfl (by omega) rfl rfl (Nat.le_refl _) ⟨by omega, by omega⟩ (Nat.le_of_ble_eq_true rfl) dX11_init_83 ?_
  refine X_pP true fl_X11_56 (by decide +kernel) rfl rfl (fun _ => ⟨rfl, rfl⟩) dX11_init_86 ?_
  refine X_aload_n 0 dX11_init_89 rfl rfl rfl ?_
  refine X_newJ (N := 7) (b := 102) nl_X11_60 (by decide +kernel) rfl ⟨by omega, by omega⟩ dX11_init_90 ?_
  refine X_dup dX11_init_93 rfl ?_
  refine X_callIN (host := "LatestCoat") (kX1_init d (by omega) (by decide +kernel) (by decide) (by decide +kernel)) (by decide +kernel) mz_X1_init mc_X1_init (by decide +kernel) (by decide) mi_X1_init rfl (by omega) rfl rfl (Nat.le_refl _) ⟨by omega, by omega⟩ (Nat.le_of_ble_eq_true rfl) dX11_init_94 ?_
  refine X_pP true fl_X11_63 (by decide +kernel) rfl rfl (fun _ => ⟨rfl, rfl⟩) dX11_init_97 ?_
  refine X_aload_n 0 dX11_init_100 rfl rfl rfl ?_
  refine X_newJ (N := 8) (b := 109) nl_X11_67 (by decide +kernel) rfl ⟨by omega, by omega⟩ dX11_init_101 ?_
  refine X_dup dX11_init_104 rfl ?_
  refine X_callIN (host := "LatestCoat") (kX5_init d (by omega) (by decide +kernel) (by decide) (by decide +kernel)) (by decide +kernel) mz_X5_init mc_X5_init (by decide +kernel) (by decide) mi_X5_init rfl (by omega) rfl rfl (Nat.le_refl _) ⟨by omega, by omega⟩ (Nat.le_of_ble_eq_true rfl) dX11_init_105 ?_
  refine X_pP true fl_X11_70 (by decide +kernel) rfl rfl (fun _ => ⟨rfl, rfl⟩) dX11_init_108 ?_
  refine X_aload_n 0 dX11_init_111 rfl rfl rfl ?_
  refine X_bipush (v := (6 : Int32)) dX11_init_112 (by decide) ?_
  refine X_newaJ (t := 20) (N := 6) (b := 120) rfl (by decide) (by decide) ac_int (by decide) (by decide +kernel) (by decide) (by decide) ⟨by omega, by omega⟩ dX11_init_114 ?_
  refine X_pP true fl_X11_74 (by decide +kernel) rfl rfl (fun _ => ⟨rfl, rfl⟩) dX11_init_116 ?_
  refine X_aload_n 0 dX11_init_119 rfl rfl rfl ?_
  refine X_bipush (v := (6 : Int32)) dX11_init_120 (by decide) ?_
  refine X_newaJ (t := 20) (N := 6) (b := 121) rfl (by decide) (by decide) ac_int (by decide) (by decide +kernel) (by decide) (by decide) ⟨by omega, by omega⟩ dX11_init_122 ?_
  refine X_pP true fl_X11_78 (by decide +kernel) rfl rfl (fun _ => ⟨rfl, rfl⟩) dX11_init_124 ?_
  refine X_aload_n 0 dX11_init_127 rfl rfl rfl ?_
  refine X_bipush (v := (28 : Int32)) dX11_init_128 (by decide) ?_
  refine X_newaJ (t := 20) (N := 28) (b := 122) rfl (by decide) (by decide) ac_int (by decide) (by decide +kernel) (by decide) (by decide) ⟨by omega, by omega⟩ dX11_init_130 ?_
  refine X_pP true fl_X11_81 (by decide +kernel) rfl rfl (fun _ => ⟨rfl, rfl⟩) dX11_init_132 ?_
  refine X_aload_n 0 dX11_init_135 rfl rfl rfl ?_
  refine X_iconst (v := (0 : Int32)) dX11_init_136 (by decide) ?_
  refine X_pI fl_X11_84 (by decide +kernel) rfl rfl dX11_init_137 ?_
  refine X_aload_n 0 dX11_init_140 rfl rfl rfl ?_
  refine X_iconst (v := (0 : Int32)) dX11_init_141 (by decide) ?_
  refine X_pI fl_X11_88 (by decide +kernel) rfl rfl dX11_init_142 ?_
  exact X_vret dX11_init_145 rfl
def hm0 : xH := xnew hxZ (11, 0)
def hm_87 : xH := (xnew (pP (xnew (pP (xnew (pP (pI (pI (pI (pI (pI (pI (pI (pI (pI (pI (pI (pI (pI (xnew hm0 (20, 13)) 124 0 (0 : Int32)) 124 1 (0 : Int32)) 124 2 (0 : Int32)) 124 3 (0 : Int32)) 124 4 (0 : Int32)) 124 5 (0 : Int32)) 124 6 (0 : Int32)) 124 7 (0 : Int32)) 124 8 (0 : Int32)) 124 9 (0 : Int32)) 124 10 (0 : Int32)) 124 11 (0 : Int32)) 124 12 (-1 : Int32)) 123 1 124) (20, 5)) 123 2 125) (20, 4)) 123 3 126) (20, 4))
def hm_186 : xH := (xnew (pP (xnew (pP (xnew (pP (xnew (pP (xnew (pP (xnew (pP (xnew (pP (xnew (pP (xnew (pP (xnew (pP (xnew (pP (xnew (pP (xnew (pP hm_87 123 4 127) (20, 4)) 123 5 128) (20, 5)) 123 6 129) (20, 5)) 123 7 130) (20, 16)) 123 8 131) (20, 80)) 123 9 132) (20, 80)) 123 10 133) (20, 10)) 123 11 134) (20, 10)) 123 12 135) (20, 10)) 123 13 136) (20, 16)) 123 14 137) (20, 80)) 123 15 138) (20, 4)) 123 16 139) (20, 1))
def hm_285 : xH := (xnew (pP (xnew (pP (xnew (pI (pP (xnew (pP (xnew (pP (xnew (pP (xnew (pP (xnew (pP (xnew (pP (xnew (pP (xnew (pP (xnew (pP hm_186 123 17 140) (20, 9)) 123 18 141) (20, 5)) 123 19 142) (20, 4)) 123 20 143) (20, 4)) 123 21 144) (20, 4)) 123 22 145) (20, 5)) 123 23 146) (20, 5)) 123 24 147) (20, 16)) 123 25 148) (20, 80)) 123 26 149) 123 36 (13 : Int32)) (22, 400)) 123 37 150) (20, 1800)) 123 38 151) (20, 1800))
def hm_383 : xH := (pP (xnew (pP (xnew (pP (xnew (pP (xnew (pP (xnew (pP (xnew (pP (xnew (pP (xnew (pP (xnew (pP (xnew (pP (xnew (pP (xnew (pP hm_285 123 39 152) (20, 6)) 123 40 153) (20, 72)) 123 41 154) (20, 72)) 123 42 155) (20, 72)) 123 43 156) (20, 402)) 123 44 157) (21, 13)) 123 45 158) (21, 300)) 123 46 159) (20, 4)) 123 47 160) (20, 4)) 123 48 161) (20, 3640)) 123 49 162) (20, 1)) 123 50 163) (20, 6)) 123 54 164)
def hmZ : xH := (pP (xnew (pP (xnew (pP (xnew (pP (xnew (pP (xnew (pP (xnew (pP (xnew hm_383 (20, 6)) 123 55 165) (20, 5)) 123 56 166) (20, 5)) 123 57 167) (20, 4)) 123 59 168) (20, 20)) 123 60 169) (20, 20500)) 123 61 170) (23, 4)) 123 62 171)
set_option maxHeartbeats 1000000 in
set_option maxRecDepth 100000 in
theorem kX12_init {E : xE} {B : Nat} (d : Nat) (hd : 1 ≤ d) : MX E B d 48 29615 yX12_init cX12_init 1 (none : Option Jvm.ClassFile.FieldType) [.ref 123] hm0 (none, hmZ) := by
  refine MX_of (lv := [(0, .ref 123)]) (by decide +kernel) (Nat.le_of_ble_eq_true rfl) rfl ?_
  obtain ⟨d, rfl⟩ : ∃ d0, d = d0 + 1 := ⟨d - 1, by omega⟩
  refine X_aload_n 0 dX12_init_0 rfl rfl rfl ?_
  refine X_objInit ol_X12_3 oi_i oi_c (by omega) (by omega) (Nat.le_of_ble_eq_true rfl) dX12_init_1 ?_
  refine X_aload_n 0 dX12_init_4 rfl rfl rfl ?_
  refine X_bipush (v := (13 : Int32)) dX12_init_5 (by decide) ?_
  refine X_newaJ (t := 20) (N := 13) (b := 124) rfl (by decide) (by decide) ac_int (by decide) (by decide +kernel) (by decide) (by decide) ⟨by omega, by omega⟩ dX12_init_7 ?_
  refine X_dup dX12_init_9 rfl ?_
  refine X_iconst (v := (0 : Int32)) dX12_init_10 (by decide) ?_
  refine X_iconst (v := (0 : Int32)) dX12_init_11 (by decide) ?_
  refine X_iastP (j := 0) (n := 13) (by decide +kernel) (by decide) (by decide) dX12_init_12 ?_
  refine X_dup dX12_init_13 rfl ?_
  refine X_iconst (v := (1 : Int32)) dX12_init_14 (by decide) ?_
  refine X_iconst (v := (0 : Int32)) dX12_init_15 (by decide) ?_
  refine X_iastP (j := 1) (n := 13) (by decide +kernel) (by decide) (by decide) dX12_init_16 ?_
  refine X_dup dX12_init_17 rfl ?_
  refine X_iconst (v := (2 : Int32)) dX12_init_18 (by decide) ?_
  refine X_iconst (v := (0 : Int32)) dX12_init_19 (by decide) ?_
  refine X_iastP (j := 2) (n := 13) (by decide +kernel) (by decide) (by decide) dX12_init_20 ?_
  refine X_dup dX12_init_21 rfl ?_
  refine X_iconst (v := (3 : Int32)) dX12_init_22 (by decide) ?_
  refine X_iconst (v := (0 : Int32)) dX12_init_23 (by decide) ?_
  refine X_iastP (j := 3) (n := 13) (by decide +kernel) (by decide) (by decide) dX12_init_24 ?_
  refine X_dup dX12_init_25 rfl ?_
  refine X_iconst (v := (4 : Int32)) dX12_init_26 (by decide) ?_
  refine X_iconst (v := (0 : Int32)) dX12_init_27 (by decide) ?_
  refine X_iastP (j := 4) (n := 13) (by decide +kernel) (by decide) (by decide) dX12_init_28 ?_
  refine X_dup dX12_init_29 rfl ?_
  refine X_iconst (v := (5 : Int32)) dX12_init_30 (by decide) ?_
  refine X_iconst (v := (0 : Int32)) dX12_init_31 (by decide) ?_
  refine X_iastP (j := 5) (n := 13) (by decide +kernel) (by decide) (by decide) dX12_init_32 ?_
  refine X_dup dX12_init_33 rfl ?_
  refine X_bipush (v := (6 : Int32)) dX12_init_34 (by decide) ?_
  refine X_iconst (v := (0 : Int32)) dX12_init_36 (by decide) ?_
  refine X_iastP (j := 6) (n := 13) (by decide +kernel) (by decide) (by decide) dX12_init_37 ?_
  refine X_dup dX12_init_38 rfl ?_
  refine X_bipush (v := (7 : Int32)) dX12_init_39 (by decide) ?_
  refine X_iconst (v := (0 : Int32)) dX12_init_41 (by decide) ?_
  refine X_iastP (j := 7) (n := 13) (by decide +kernel) (by decide) (by decide) dX12_init_42 ?_
  refine X_dup dX12_init_43 rfl ?_
  refine X_bipush (v := (8 : Int32)) dX12_init_44 (by decide) ?_
  refine X_iconst (v := (0 : Int32)) dX12_init_46 (by decide) ?_
  refine X_iastP (j := 8) (n := 13) (by decide +kernel) (by decide) (by decide) dX12_init_47 ?_
  refine X_dup dX12_init_48 rfl ?_
  refine X_bipush (v := (9 : Int32)) dX12_init_49 (by decide) ?_
  refine X_iconst (v := (0 : Int32)) dX12_init_51 (by decide) ?_
  refine X_iastP (j := 9) (n := 13) (by decide +kernel) (by decide) (by decide) dX12_init_52 ?_
  refine X_dup dX12_init_53 rfl ?_
  refine X_bipush (v := (10 : Int32)) dX12_init_54 (by decide) ?_
  refine X_iconst (v := (0 : Int32)) dX12_init_56 (by decide) ?_
  refine X_iastP (j := 10) (n := 13) (by decide +kernel) (by decide) (by decide) dX12_init_57 ?_
  refine X_dup dX12_init_58 rfl ?_
  refine X_bipush (v := (11 : Int32)) dX12_init_59 (by decide) ?_
  refine X_iconst (v := (0 : Int32)) dX12_init_61 (by decide) ?_
  refine X_iastP (j := 11) (n := 13) (by decide +kernel) (by decide) (by decide) dX12_init_62 ?_
  refine X_dup dX12_init_63 rfl ?_
  refine X_bipush (v := (12 : Int32)) dX12_init_64 (by decide) ?_
  refine X_iconst (v := (-1 : Int32)) dX12_init_66 (by decide) ?_
  refine X_iastP (j := 12) (n := 13) (by decide +kernel) (by decide) (by decide) dX12_init_67 ?_
  refine X_pP true fl_X12_9 (by decide +kernel) rfl rfl (fun _ => ⟨rfl, rfl⟩) dX12_init_68 ?_
  refine X_aload_n 0 dX12_init_71 rfl rfl rfl ?_
  refine X_iconst (v := (5 : Int32)) dX12_init_72 (by decide) ?_
  refine X_newaJ (t := 20) (N := 5) (b := 125) rfl (by decide) (by decide) ac_int (by decide) (by decide +kernel) (by decide) (by decide) ⟨by omega, by omega⟩ dX12_init_73 ?_
  refine X_pP true fl_X12_13 (by decide +kernel) rfl rfl (fun _ => ⟨rfl, rfl⟩) dX12_init_75 ?_
  refine X_aload_n 0 dX12_init_78 rfl rfl rfl ?_
  refine X_iconst (v := (4 : Int32)) dX12_init_79 (by decide) ?_
  refine X_newaJ (t := 20) (N := 4) (b := 126) rfl (by decide) (by decide) ac_int (by decide) (by decide +kernel) (by decide) (by decide) ⟨by omega, by omega⟩ dX12_init_80 ?_
  refine X_pP true fl_X12_16 (by decide +kernel) rfl rfl (fun _ => ⟨rfl, rfl⟩) dX12_init_82 ?_
  refine X_aload_n 0 dX12_init_85 rfl rfl rfl ?_
  refine X_iconst (v := (4 : Int32)) dX12_init_86 (by decide) ?_
  refine X_newaJ (t := 20) (N := 4) (b := 127) rfl (by decide) (by decide) ac_int (by decide) (by decide +kernel) (by decide) (by decide) ⟨by omega, by omega⟩ dX12_init_87 ?_
  refine X_pP true fl_X12_19 (by decide +kernel) rfl rfl (fun _ => ⟨rfl, rfl⟩) dX12_init_89 ?_
  refine X_aload_n 0 dX12_init_92 rfl rfl rfl ?_
  refine X_iconst (v := (4 : Int32)) dX12_init_93 (by decide) ?_
  refine X_newaJ (t := 20) (N := 4) (b := 128) rfl (by decide) (by decide) ac_int (by decide) (by decide +kernel) (by decide) (by decide) ⟨by omega, by omega⟩ dX12_init_94 ?_
  refine X_pP true fl_X12_22 (by decide +kernel) rfl rfl (fun _ => ⟨rfl, rfl⟩) dX12_init_96 ?_
  refine X_aload_n 0 dX12_init_99 rfl rfl rfl ?_
  refine X_iconst (v := (5 : Int32)) dX12_init_100 (by decide) ?_
  refine X_newaJ (t := 20) (N := 5) (b := 129) rfl (by decide) (by decide) ac_int (by decide) (by decide +kernel) (by decide) (by decide) ⟨by omega, by omega⟩ dX12_init_101 ?_
  refine X_pP true fl_X12_25 (by decide +kernel) rfl rfl (fun _ => ⟨rfl, rfl⟩) dX12_init_103 ?_
  refine X_aload_n 0 dX12_init_106 rfl rfl rfl ?_
  refine X_iconst (v := (5 : Int32)) dX12_init_107 (by decide) ?_
  refine X_newaJ (t := 20) (N := 5) (b := 130) rfl (by decide) (by decide) ac_int (by decide) (by decide +kernel) (by decide) (by decide) ⟨by omega, by omega⟩ dX12_init_108 ?_
  refine X_pP true fl_X12_28 (by decide +kernel) rfl rfl (fun _ => ⟨rfl, rfl⟩) dX12_init_110 ?_
  refine X_aload_n 0 dX12_init_113 rfl rfl rfl ?_
  refine X_bipush (v := (16 : Int32)) dX12_init_114 (by decide) ?_
  refine X_newaJ (t := 20) (N := 16) (b := 131) rfl (by decide) (by decide) ac_int (by decide) (by decide +kernel) (by decide) (by decide) ⟨by omega, by omega⟩ dX12_init_116 ?_
  refine X_pP true fl_X12_31 (by decide +kernel) rfl rfl (fun _ => ⟨rfl, rfl⟩) dX12_init_118 ?_
  refine X_aload_n 0 dX12_init_121 rfl rfl rfl ?_
  refine X_bipush (v := (80 : Int32)) dX12_init_122 (by decide) ?_
  refine X_newaJ (t := 20) (N := 80) (b := 132) rfl (by decide) (by decide) ac_int (by decide) (by decide +kernel) (by decide) (by decide) ⟨by omega, by omega⟩ dX12_init_124 ?_
  refine X_pP true fl_X12_34 (by decide +kernel) rfl rfl (fun _ => ⟨rfl, rfl⟩) dX12_init_126 ?_
  refine X_aload_n 0 dX12_init_129 rfl rfl rfl ?_
  refine X_bipush (v := (80 : Int32)) dX12_init_130 (by decide) ?_
  refine X_newaJ (t := 20) (N := 80) (b := 133) rfl (by decide) (by decide) ac_int (by decide) (by decide +kernel) (by decide) (by decide) ⟨by omega, by omega⟩ dX12_init_132 ?_
  refine X_pP true fl_X12_37 (by decide +kernel) rfl rfl (fun _ => ⟨rfl, rfl⟩) dX12_init_134 ?_
  refine X_aload_n 0 dX12_init_137 rfl rfl rfl ?_
  refine X_bipush (v := (10 : Int32)) dX12_init_138 (by decide) ?_
  refine X_newaJ (t := 20) (N := 10) (b := 134) rfl (by decide) (by decide) ac_int (by decide) (by decide +kernel) (by decide) (by decide) ⟨by omega, by omega⟩ dX12_init_140 ?_
  refine X_pP true fl_X12_40 (by decide +kernel) rfl rfl (fun _ => ⟨rfl, rfl⟩) dX12_init_142 ?_
  refine X_aload_n 0 dX12_init_145 rfl rfl rfl ?_
  refine X_bipush (v := (10 : Int32)) dX12_init_146 (by decide) ?_
  refine X_newaJ (t := 20) (N := 10) (b := 135) rfl (by decide) (by decide) ac_int (by decide) (by decide +kernel) (by decide) (by decide) ⟨by omega, by omega⟩ dX12_init_148 ?_
  refine X_pP true fl_X12_43 (by decide +kernel) rfl rfl (fun _ => ⟨rfl, rfl⟩) dX12_init_150 ?_
  refine X_aload_n 0 dX12_init_153 rfl rfl rfl ?_
  refine X_bipush (v := (10 : Int32)) dX12_init_154 (by decide) ?_
  refine X_newaJ (t := 20) (N := 10) (b := 136) rfl (by decide) (by decide) ac_int (by decide) (by decide +kernel) (by decide) (by decide) ⟨by omega, by omega⟩ dX12_init_156 ?_
  refine X_pP true fl_X12_46 (by decide +kernel) rfl rfl (fun _ => ⟨rfl, rfl⟩) dX12_init_158 ?_
  refine X_aload_n 0 dX12_init_161 rfl rfl rfl ?_
  refine X_bipush (v := (16 : Int32)) dX12_init_162 (by decide) ?_
  refine X_newaJ (t := 20) (N := 16) (b := 137) rfl (by decide) (by decide) ac_int (by decide) (by decide +kernel) (by decide) (by decide) ⟨by omega, by omega⟩ dX12_init_164 ?_
  refine X_pP true fl_X12_49 (by decide +kernel) rfl rfl (fun _ => ⟨rfl, rfl⟩) dX12_init_166 ?_
  refine X_aload_n 0 dX12_init_169 rfl rfl rfl ?_
  refine X_bipush (v := (80 : Int32)) dX12_init_170 (by decide) ?_
  refine X_newaJ (t := 20) (N := 80) (b := 138) rfl (by decide) (by decide) ac_int (by decide) (by decide +kernel) (by decide) (by decide) ⟨by omega, by omega⟩ dX12_init_172 ?_
  refine X_pP true fl_X12_52 (by decide +kernel) rfl rfl (fun _ => ⟨rfl, rfl⟩) dX12_init_174 ?_
  refine X_aload_n 0 dX12_init_177 rfl rfl rfl ?_
  refine X_iconst (v := (4 : Int32)) dX12_init_178 (by decide) ?_
  refine X_newaJ (t := 20) (N := 4) (b := 139) rfl (by decide) (by decide) ac_int (by decide) (by decide +kernel) (by decide) (by decide) ⟨by omega, by omega⟩ dX12_init_179 ?_
  refine X_pP true fl_X12_55 (by decide +kernel) rfl rfl (fun _ => ⟨rfl, rfl⟩) dX12_init_181 ?_
  refine X_aload_n 0 dX12_init_184 rfl rfl rfl ?_
  refine X_iconst (v := (1 : Int32)) dX12_init_185 (by decide) ?_
  refine X_newaJ (t := 20) (N := 1) (b := 140) rfl (by decide) (by decide) ac_int (by decide) (by decide +kernel) (by decide) (by decide) ⟨by omega, by omega⟩ dX12_init_186 ?_
  refine X_pP true fl_X12_58 (by decide +kernel) rfl rfl (fun _ => ⟨rfl, rfl⟩) dX12_init_188 ?_
  refine X_aload_n 0 dX12_init_191 rfl rfl rfl ?_
  refine X_bipush (v := (9 : Int32)) dX12_init_192 (by decide) ?_
  refine X_newaJ (t := 20) (N := 9) (b := 141) rfl (by decide) (by decide) ac_int (by decide) (by decide +kernel) (by decide) (by decide) ⟨by omega, by omega⟩ dX12_init_194 ?_
  refine X_pP true fl_X12_61 (by decide +kernel) rfl rfl (fun _ => ⟨rfl, rfl⟩) dX12_init_196 ?_
  refine X_aload_n 0 dX12_init_199 rfl rfl rfl ?_
  refine X_iconst (v := (5 : Int32)) dX12_init_200 (by decide) ?_
  refine X_newaJ (t := 20) (N := 5) (b := 142) rfl (by decide) (by decide) ac_int (by decide) (by decide +kernel) (by decide) (by decide) ⟨by omega, by omega⟩ dX12_init_201 ?_
  refine X_pP true fl_X12_64 (by decide +kernel) rfl rfl (fun _ => ⟨rfl, rfl⟩) dX12_init_203 ?_
  refine X_aload_n 0 dX12_init_206 rfl rfl rfl ?_
  refine X_iconst (v := (4 : Int32)) dX12_init_207 (by decide) ?_
  refine X_newaJ (t := 20) (N := 4) (b := 143) rfl (by decide) (by decide) ac_int (by decide) (by decide +kernel) (by decide) (by decide) ⟨by omega, by omega⟩ dX12_init_208 ?_
  refine X_pP true fl_X12_67 (by decide +kernel) rfl rfl (fun _ => ⟨rfl, rfl⟩) dX12_init_210 ?_
  refine X_aload_n 0 dX12_init_213 rfl rfl rfl ?_
  refine X_iconst (v := (4 : Int32)) dX12_init_214 (by decide) ?_
  refine X_newaJ (t := 20) (N := 4) (b := 144) rfl (by decide) (by decide) ac_int (by decide) (by decide +kernel) (by decide) (by decide) ⟨by omega, by omega⟩ dX12_init_215 ?_
  refine X_pP true fl_X12_70 (by decide +kernel) rfl rfl (fun _ => ⟨rfl, rfl⟩) dX12_init_217 ?_
  refine X_aload_n 0 dX12_init_220 rfl rfl rfl ?_
  refine X_iconst (v := (4 : Int32)) dX12_init_221 (by decide) ?_
  refine X_newaJ (t := 20) (N := 4) (b := 145) rfl (by decide) (by decide) ac_int (by decide) (by decide +kernel) (by decide) (by decide) ⟨by omega, by omega⟩ dX12_init_222 ?_
  refine X_pP true fl_X12_73 (by decide +kernel) rfl rfl (fun _ => ⟨rfl, rfl⟩) dX12_init_224 ?_
  refine X_aload_n 0 dX12_init_227 rfl rfl rfl ?_
  refine X_iconst (v := (5 : Int32)) dX12_init_228 (by decide) ?_
  refine X_newaJ (t := 20) (N := 5) (b := 146) rfl (by decide) (by decide) ac_int (by decide) (by decide +kernel) (by decide) (by decide) ⟨by omega, by omega⟩ dX12_init_229 ?_
  refine X_pP true fl_X12_76 (by decide +kernel) rfl rfl (fun _ => ⟨rfl, rfl⟩) dX12_init_231 ?_
  refine X_aload_n 0 dX12_init_234 rfl rfl rfl ?_
  refine X_iconst (v := (5 : Int32)) dX12_init_235 (by decide) ?_
  refine X_newaJ (t := 20) (N := 5) (b := 147) rfl (by decide) (by decide) ac_int (by decide) (by decide +kernel) (by decide) (by decide) ⟨by omega, by omega⟩ dX12_init_236 ?_
  refine X_pP true fl_X12_79 (by decide +kernel) rfl rfl (fun _ => ⟨rfl, rfl⟩) dX12_init_238 ?_
  refine X_aload_n 0 dX12_init_241 rfl rfl rfl ?_
  refine X_bipush (v := (16 : Int32)) dX12_init_242 (by decide) ?_
  refine X_newaJ (t := 20) (N := 16) (b := 148) rfl (by decide) (by decide) ac_int (by decide) (by decide +kernel) (by decide) (by decide) ⟨by omega, by omega⟩ dX12_init_244 ?_
  refine X_pP true fl_X12_82 (by decide +kernel) rfl rfl (fun _ => ⟨rfl, rfl⟩) dX12_init_246 ?_
  refine X_aload_n 0 dX12_init_249 rfl rfl rfl ?_
  refine X_bipush (v := (80 : Int32)) dX12_init_250 (by decide) ?_
  refine X_newaJ (t := 20) (N := 80) (b := 149) rfl (by decide) (by decide) ac_int (by decide) (by decide +kernel) (by decide) (by decide) ⟨by omega, by omega⟩ dX12_init_252 ?_
  refine X_pP true fl_X12_85 (by decide +kernel) rfl rfl (fun _ => ⟨rfl, rfl⟩) dX12_init_254 ?_
  refine X_aload_n 0 dX12_init_257 rfl rfl rfl ?_
  refine X_bipush (v := (13 : Int32)) dX12_init_258 (by decide) ?_
  refine X_pI fl_X12_88 (by decide +kernel) rfl rfl dX12_init_260 ?_
  refine X_aload_n 0 dX12_init_263 rfl rfl rfl ?_
  refine X_sipush (v := (400 : Int32)) dX12_init_264 (by decide) ?_
  refine X_newaJ (t := 22) (N := 400) (b := 150) rfl (by decide) (by decide) ac_byte (by decide) (by decide +kernel) (by decide) (by decide) ⟨by omega, by omega⟩ dX12_init_267 ?_
  refine X_pP true fl_X12_92 (by decide +kernel) rfl rfl (fun _ => ⟨rfl, rfl⟩) dX12_init_269 ?_
  refine X_aload_n 0 dX12_init_272 rfl rfl rfl ?_
  refine X_sipush (v := (1800 : Int32)) dX12_init_273 (by decide) ?_
  refine X_newaJ (t := 20) (N := 1800) (b := 151) rfl (by decide) (by decide) ac_int (by decide) (by decide +kernel) (by decide) (by decide) ⟨by omega, by omega⟩ dX12_init_276 ?_
  refine X_pP true fl_X12_96 (by decide +kernel) rfl rfl (fun _ => ⟨rfl, rfl⟩) dX12_init_278 ?_
  refine X_aload_n 0 dX12_init_281 rfl rfl rfl ?_
  refine X_sipush (v := (1800 : Int32)) dX12_init_282 (by decide) ?_
  refine X_newaJ (t := 20) (N := 1800) (b := 152) rfl (by decide) (by decide) ac_int (by decide) (by decide +kernel) (by decide) (by decide) ⟨by omega, by omega⟩ dX12_init_285 ?_
  refine X_pP true fl_X12_99 (by decide +kernel) rfl rfl (fun _ => ⟨rfl, rfl⟩) dX12_init_287 ?_
  refine X_aload_n 0 dX12_init_290 rfl rfl rfl ?_
  refine X_bipush (v := (6 : Int32)) dX12_init_291 (by decide) ?_
  refine X_newaJ (t := 20) (N := 6) (b := 153) rfl (by decide) (by decide) ac_int (by decide) (by decide +kernel) (by decide) (by decide) ⟨by omega, by omega⟩ dX12_init_293 ?_
  refine X_pP true fl_X12_102 (by decide +kernel) rfl rfl (fun _ => ⟨rfl, rfl⟩) dX12_init_295 ?_
  refine X_aload_n 0 dX12_init_298 rfl rfl rfl ?_
  refine X_bipush (v := (72 : Int32)) dX12_init_299 (by decide) ?_
  refine X_newaJ (t := 20) (N := 72) (b := 154) rfl (by decide) (by decide) ac_int (by decide) (by decide +kernel) (by decide) (by decide) ⟨by omega, by omega⟩ dX12_init_301 ?_
  refine X_pP true fl_X12_105 (by decide +kernel) rfl rfl (fun _ => ⟨rfl, rfl⟩) dX12_init_303 ?_
  refine X_aload_n 0 dX12_init_306 rfl rfl rfl ?_
  refine X_bipush (v := (72 : Int32)) dX12_init_307 (by decide) ?_
  refine X_newaJ (t := 20) (N := 72) (b := 155) rfl (by decide) (by decide) ac_int (by decide) (by decide +kernel) (by decide) (by decide) ⟨by omega, by omega⟩ dX12_init_309 ?_
  refine X_pP true fl_X12_108 (by decide +kernel) rfl rfl (fun _ => ⟨rfl, rfl⟩) dX12_init_311 ?_
  refine X_aload_n 0 dX12_init_314 rfl rfl rfl ?_
  refine X_bipush (v := (72 : Int32)) dX12_init_315 (by decide) ?_
  refine X_newaJ (t := 20) (N := 72) (b := 156) rfl (by decide) (by decide) ac_int (by decide) (by decide +kernel) (by decide) (by decide) ⟨by omega, by omega⟩ dX12_init_317 ?_
  refine X_pP true fl_X12_111 (by decide +kernel) rfl rfl (fun _ => ⟨rfl, rfl⟩) dX12_init_319 ?_
  refine X_aload_n 0 dX12_init_322 rfl rfl rfl ?_
  refine X_sipush (v := (402 : Int32)) dX12_init_323 (by decide) ?_
  refine X_newaJ (t := 20) (N := 402) (b := 157) rfl (by decide) (by decide) ac_int (by decide) (by decide +kernel) (by decide) (by decide) ⟨by omega, by omega⟩ dX12_init_326 ?_
  refine X_pP true fl_X12_114 (by decide +kernel) rfl rfl (fun _ => ⟨rfl, rfl⟩) dX12_init_328 ?_
  refine X_aload_n 0 dX12_init_331 rfl rfl rfl ?_
  refine X_bipush (v := (13 : Int32)) dX12_init_332 (by decide) ?_
  refine X_newaJ (t := 21) (N := 13) (b := 158) rfl (by decide) (by decide) ac_long (by decide) (by decide +kernel) (by decide) (by decide) ⟨by omega, by omega⟩ dX12_init_334 ?_
  refine X_pP true fl_X12_117 (by decide +kernel) rfl rfl (fun _ => ⟨rfl, rfl⟩) dX12_init_336 ?_
  refine X_aload_n 0 dX12_init_339 rfl rfl rfl ?_
  refine X_sipush (v := (300 : Int32)) dX12_init_340 (by decide) ?_
  refine X_newaJ (t := 21) (N := 300) (b := 159) rfl (by decide) (by decide) ac_long (by decide) (by decide +kernel) (by decide) (by decide) ⟨by omega, by omega⟩ dX12_init_343 ?_
  refine X_pP true fl_X12_121 (by decide +kernel) rfl rfl (fun _ => ⟨rfl, rfl⟩) dX12_init_345 ?_
  refine X_aload_n 0 dX12_init_348 rfl rfl rfl ?_
  refine X_iconst (v := (4 : Int32)) dX12_init_349 (by decide) ?_
  refine X_newaJ (t := 20) (N := 4) (b := 160) rfl (by decide) (by decide) ac_int (by decide) (by decide +kernel) (by decide) (by decide) ⟨by omega, by omega⟩ dX12_init_350 ?_
  refine X_pP true fl_X12_124 (by decide +kernel) rfl rfl (fun _ => ⟨rfl, rfl⟩) dX12_init_352 ?_
  refine X_aload_n 0 dX12_init_355 rfl rfl rfl ?_
  refine X_iconst (v := (4 : Int32)) dX12_init_356 (by decide) ?_
  refine X_newaJ (t := 20) (N := 4) (b := 161) rfl (by decide) (by decide) ac_int (by decide) (by decide +kernel) (by decide) (by decide) ⟨by omega, by omega⟩ dX12_init_357 ?_
  refine X_pP true fl_X12_127 (by decide +kernel) rfl rfl (fun _ => ⟨rfl, rfl⟩) dX12_init_359 ?_
  refine X_aload_n 0 dX12_init_362 rfl rfl rfl ?_
  refine X_sipush (v := (3640 : Int32)) dX12_init_363 (by decide) ?_
  refine X_newaJ (t := 20) (N := 3640) (b := 162) rfl (by decide) (by decide) ac_int (by decide) (by decide +kernel) (by decide) (by decide) ⟨by omega, by omega⟩ dX12_init_366 ?_
  refine X_pP true fl_X12_130 (by decide +kernel) rfl rfl (fun _ => ⟨rfl, rfl⟩) dX12_init_368 ?_
  refine X_aload_n 0 dX12_init_371 rfl rfl rfl ?_
  refine X_iconst (v := (1 : Int32)) dX12_init_372 (by decide) ?_
  refine X_newaJ (t := 20) (N := 1) (b := 163) rfl (by decide) (by decide) ac_int (by decide) (by decide +kernel) (by decide) (by decide) ⟨by omega, by omega⟩ dX12_init_373 ?_
  refine X_pP true fl_X12_133 (by decide +kernel) rfl rfl (fun _ => ⟨rfl, rfl⟩) dX12_init_375 ?_
  refine X_aload_n 0 dX12_init_378 rfl rfl rfl ?_
  refine X_bipush (v := (6 : Int32)) dX12_init_379 (by decide) ?_
  refine X_newaJ (t := 20) (N := 6) (b := 164) rfl (by decide) (by decide) ac_int (by decide) (by decide +kernel) (by decide) (by decide) ⟨by omega, by omega⟩ dX12_init_381 ?_
  refine X_pP true fl_X12_136 (by decide +kernel) rfl rfl (fun _ => ⟨rfl, rfl⟩) dX12_init_383 ?_
  refine X_aload_n 0 dX12_init_386 rfl rfl rfl ?_
  refine X_bipush (v := (6 : Int32)) dX12_init_387 (by decide) ?_
  refine X_newaJ (t := 20) (N := 6) (b := 165) rfl (by decide) (by decide) ac_int (by decide) (by decide +kernel) (by decide) (by decide) ⟨by omega, by omega⟩ dX12_init_389 ?_
  refine X_pP true fl_X12_139 (by decide +kernel) rfl rfl (fun _ => ⟨rfl, rfl⟩) dX12_init_391 ?_
  refine X_aload_n 0 dX12_init_394 rfl rfl rfl ?_
  refine X_iconst (v := (5 : Int32)) dX12_init_395 (by decide) ?_
  refine X_newaJ (t := 20) (N := 5) (b := 166) rfl (by decide) (by decide) ac_int (by decide) (by decide +kernel) (by decide) (by decide) ⟨by omega, by omega⟩ dX12_init_396 ?_
  refine X_pP true fl_X12_142 (by decide +kernel) rfl rfl (fun _ => ⟨rfl, rfl⟩) dX12_init_398 ?_
  refine X_aload_n 0 dX12_init_401 rfl rfl rfl ?_
  refine X_iconst (v := (5 : Int32)) dX12_init_402 (by decide) ?_
  refine X_newaJ (t := 20) (N := 5) (b := 167) rfl (by decide) (by decide) ac_int (by decide) (by decide +kernel) (by decide) (by decide) ⟨by omega, by omega⟩ dX12_init_403 ?_
  refine X_pP true fl_X12_145 (by decide +kernel) rfl rfl (fun _ => ⟨rfl, rfl⟩) dX12_init_405 ?_
  refine X_aload_n 0 dX12_init_408 rfl rfl rfl ?_
  refine X_iconst (v := (4 : Int32)) dX12_init_409 (by decide) ?_
  refine X_newaJ (t := 20) (N := 4) (b := 168) rfl (by decide) (by decide) ac_int (by decide) (by decide +kernel) (by decide) (by decide) ⟨by omega, by omega⟩ dX12_init_410 ?_
  refine X_pP true fl_X12_148 (by decide +kernel) rfl rfl (fun _ => ⟨rfl, rfl⟩) dX12_init_412 ?_
  refine X_aload_n 0 dX12_init_415 rfl rfl rfl ?_
  refine X_bipush (v := (20 : Int32)) dX12_init_416 (by decide) ?_
  refine X_newaJ (t := 20) (N := 20) (b := 169) rfl (by decide) (by decide) ac_int (by decide) (by decide +kernel) (by decide) (by decide) ⟨by omega, by omega⟩ dX12_init_418 ?_
  refine X_pP true fl_X12_151 (by decide +kernel) rfl rfl (fun _ => ⟨rfl, rfl⟩) dX12_init_420 ?_
  refine X_aload_n 0 dX12_init_423 rfl rfl rfl ?_
  refine X_sipush (v := (20500 : Int32)) dX12_init_424 (by decide) ?_
  refine X_newaJ (t := 20) (N := 20500) (b := 170) rfl (by decide) (by decide) ac_int (by decide) (by decide +kernel) (by decide) (by decide) ⟨by omega, by omega⟩ dX12_init_427 ?_
  refine X_pP true fl_X12_154 (by decide +kernel) rfl rfl (fun _ => ⟨rfl, rfl⟩) dX12_init_429 ?_
  refine X_aload_n 0 dX12_init_432 rfl rfl rfl ?_
  refine X_iconst (v := (4 : Int32)) dX12_init_433 (by decide) ?_
  refine X_newaJ (t := 23) (N := 4) (b := 171) rfl (by decide) (by decide) ac_boolean (by decide) (by decide +kernel) (by decide) (by decide) ⟨by omega, by omega⟩ dX12_init_434 ?_
  refine X_pP true fl_X12_157 (by decide +kernel) rfl rfl (fun _ => ⟨rfl, rfl⟩) dX12_init_436 ?_
  exact X_vret dX12_init_439 rfl

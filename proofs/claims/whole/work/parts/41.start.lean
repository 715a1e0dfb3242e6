/-! The law from its entry, given an invariant. -/
set_option maxRecDepth 100000 in
theorem law_start {Inv : Nat → xH → Prop} (hG : ∀ k h, Inv k h → GW h.2.1 h.2.2.1 ∧ Fr h) (hM : ∀ k h, Inv k h → Inv (k + 1) h) (hst : ∀ k, k < 512 → stAll (Inv k) (Inv (k + 1))) (h0 : Inv 0 hmZ) (E : xE) (B : Nat) (nm : String) (hL : E.2.2.2.2.2.2.1 ≤ 3072) : ∃ hf, X E B 1300 600000 7302250 ⟨RL, nm, "([I)Z"⟩ cL_law 4 (some .boolean) (some (.int 1), hf) 0 [(0, .retAddr 1000)] [] 0 0 hE0 := by
  obtain ⟨hf, K⟩ := law_loop (E := E) (B := B) (nm := nm) hL hG hM hst 513 0 hmZ (by omega) (by omega) h0
  refine ⟨hf, ?_⟩
  refine X_newJ (N := 15) (b := 1) nl_L_7 (by decide +kernel) rfl ⟨by omega, by omega⟩ dL_law_0 ?_
  refine X_dup dL_law_3 rfl ?_
  refine X_callI (h2 := hxZ) (kX11_init 1299 (by decide)) ml_L_9 mi_X11_init rfl (by decide) rfl rfl (by decide) ⟨by omega, by omega⟩ (Nat.le_of_ble_eq_true rfl) dL_law_4 ?_
  refine X_astore_n (lv' := [(1, .ref 1), (0, .retAddr 1000)]) dL_law_7 rfl (by decide) rfl rfl ?_
  refine X_newJ (N := 65) (b := 123) nl_L_10 (by decide +kernel) rfl ⟨by omega, by omega⟩ dL_law_8 ?_
  refine X_dup dL_law_11 rfl ?_
  refine X_callI (h2 := hmZ) (kX12_init 1299 (by decide)) ml_L_12 mi_X12_init rfl (by decide) rfl rfl (by decide) ⟨by omega, by omega⟩ (Nat.le_of_ble_eq_true rfl) dL_law_12 ?_
  refine X_astore_n (lv' := [(2, .ref 123), (1, .ref 1), (0, .retAddr 1000)]) dL_law_15 rfl (by decide) rfl rfl ?_
  refine X_iconst (v := (0 : Int32)) dL_law_16 (by decide) ?_
  refine X_istore_n (lv' := [(3, .int 0), (2, .ref 123), (1, .ref 1), (0, .retAddr 1000)]) dL_law_17 rfl (by decide) rfl ?_
  exact X_lv [3, 2, 1, 0] rfl K

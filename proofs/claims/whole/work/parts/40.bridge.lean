/-! THE CLAIM OUT OF ONE WALK OF THE LAW'S BODY. Your part is whole_start (and what it stands on); all else here is the same for every law, but numbers. -/
def R_law : String := "LatestCoatLaw"
def lw_P (b : Addr) (xs : List Int32) (args : Array Value) (s : State) : Prop := args = #[.ref b] ∧ s.IntsAt b xs ∧ xs.length ≤ 3072 ∧ (Jvm.Cond.and given_1 narrow_1).before args s = true
def lw_Q (_ : Array Value) (s : State) (o : Outcome) (t : State) : Prop := o = .returned (some (.int 1)) ∧ Framed s o t [] 600000 7302250
def lw_Z (below : List Frame) (a : Array Value) (s : State) : State → Prop := fun t => ∃ o, t.status = .running ∧ Ended t below o ∧ lw_Q a s o t
/-- the law's own end, with 1 on the stack, nothing written that was there before, its room as the claim has it -/
theorem lw_ret {p : Program} {l : Launch} {e : Env} {s : State} {m : MethodId} {below : List Frame} {meth : Method} {c : Code} {b : Nat} (hx : p.tables.exec = Jvm.exec) (hb : c.code = code) (hr : meth.sig.returnType = ret) (hlocks : meth.locks = false) {pc : Nat} {H : Heap} {ls : Array Slot} (hdg : decode code pc = .ok (.ireturn, 1)) : W p l e room_1 s m #[Value.ref b] below meth c H [] 600000 7302250 (lw_Z below #[Value.ref b] s) (F0 m pc ls [.int 1]) := by
  intro T hT X
  obtain ⟨fs, hret, hrun, hended, hW, hframe⟩ := X.leave (v := some (.int 1)) (hlocks := hlocks) (fun h => by rw [hr] at h; cases h)
  have hmeth' : T.vm.method? m = some meth := X.method'
  refine ⟨T.setFrames fs, ?_, .returned (some (.int 1)), hrun, hended, rfl, ⟨_, rfl⟩, hW, hframe⟩
  jvm_step X.here [X.here.top, hx, hb, hdg, hmeth', hr, ret, narrow_b1]
  (try refine ⟨rfl, ?_⟩); (try refine ⟨rfl, ?_⟩)
  first | (intro acts; rw [hret _ acts rfl rfl rfl]) | rw [hret _ _ rfl rfl rfl]
  exact Steps.refl _
/-- what holds at the law's entry: the machine, the code, the tables' words (any of lw_tbl by 'hts w (by decide +kernel)'), the script of L ints xs at the cell b, what the Statement gives of the start (any of its parts by flat_of_before) -/
def lw_At (p : Program) (s : State) (m : MethodId) (meth : Method) (c : Code) (b L : Nat) (xs : Nat → Int32) : Prop :=
  p.tables.exec = Jvm.exec ∧ c.code = code ∧ meth.sig.returnType = ret ∧ c.maxLocals = 4 ∧ s.vm.findClass R_law = some m.cls ∧ (∀ w ∈ lw_tbl, w.before #[Value.ref b] s = true) ∧ va_X b L xs s s.heap ∧ b < s.heap.size ∧ meth.locks = false ∧ (Jvm.Cond.and given_1 narrow_1).before #[Value.ref b] s = true
/-! From the judgement X to the law's claim. -/
theorem W_room {p : Program} {l : Launch} {e : Env} {R R' : Room} {s : State} {m : MethodId} {args : Array Value} {below : List Frame} {meth : Method} {c : Code} {H : Heap} {locs : List Loc} {u w : Nat} {Q : State → Prop} {g : JFrame} (h1 : R'.frames ≤ R.frames) (h2 : R'.cells ≤ R.cells) (h3 : R'.slots ≤ R.slots) (h4 : R'.locals ≤ R.locals) (k : W p l e R' s m args below meth c H locs u w Q g) : W p l e R s m args below meth c H locs u w Q g := by
  intro T hT X
  refine k T hT { X with room := ?_ }
  have h := X.room
  simp only [State.hasRoom, Bool.and_eq_true, decide_eq_true_eq] at h ⊢
  obtain ⟨⟨⟨⟨a1, a2, a3, a4, a5, a6⟩, a7⟩, a8⟩, a9⟩ := h
  exact ⟨⟨⟨⟨by omega, by omega, by omega, by omega, by omega, a6⟩, by omega⟩, by omega⟩, a9⟩
theorem W_post {p : Program} {l : Launch} {e : Env} {R : Room} {s : State} {m : MethodId} {args : Array Value} {below : List Frame} {meth : Method} {c : Code} {H : Heap} {locs : List Loc} {u w : Nat} {Q Q' : State → Prop} {g : JFrame} (h : ∀ t, Q t → Q' t) (k : W p l e R s m args below meth c H locs u w Q g) : W p l e R s m args below meth c H locs u w Q' g := by
  intro T hT X
  obtain ⟨t, a, b⟩ := k T hT X
  exact ⟨t, a, h t b⟩
def evE (dC : Nat → ClassId) (dI : Nat → Nat → Nat) (cA : Nat → ClassId) (adK adV : Nat → Nat) (z b L : Nat) (xs : Nat → Int32) : xE := (dC, dI, cA, fun k => if k = 50 then z else adK k, adV, b, L, xs)
theorem ev_K {args : Array Value} {s : State} (hts : ∀ w ∈ lw_tbl, w.before args s = true) : ∃ (dC : Nat → ClassId) (dI : Nat → Nat → Nat), ∀ (k : Nat) (q : vw_C), vwCl[k]? = some q → u_Kn s q.1 q.2.1 q.2.2 (dC k) (dI k) := by
  have h0 : ∀ k : Nat, ∃ x : ClassId × (Nat → Nat), ∀ q : vw_C, vwCl[k]? = some q → u_Kn s q.1 q.2.1 q.2.2 x.1 x.2 := by
    intro k
    match k with
    | 0 =>
      obtain ⟨c, iS, h⟩ := u_known (C := RX1) (T := TX1) (N := 7) (n := 7) hts inX1 (hts (.instantiable RX1 7) (by decide +kernel))
      exact ⟨(c, iS), fun q hq => by cases hq; exact h⟩
    | 1 =>
      obtain ⟨c, iS, h⟩ := u_known (C := RX2) (T := TX2) (N := 7) (n := 7) hts inX2 (hts (.instantiable RX2 7) (by decide +kernel))
      exact ⟨(c, iS), fun q hq => by cases hq; exact h⟩
    | 2 =>
      obtain ⟨c, iS, h⟩ := u_known (C := RX3) (T := TX3) (N := 3) (n := 3) hts inX3 (hts (.instantiable RX3 3) (by decide +kernel))
      exact ⟨(c, iS), fun q hq => by cases hq; exact h⟩
    | 3 =>
      obtain ⟨c, iS, h⟩ := u_known (C := RX4) (T := TX4) (N := 7) (n := 7) hts inX4 (hts (.instantiable RX4 7) (by decide +kernel))
      exact ⟨(c, iS), fun q hq => by cases hq; exact h⟩
    | 4 =>
      obtain ⟨c, iS, h⟩ := u_known (C := RX5) (T := TX5) (N := 8) (n := 8) hts inX5 (hts (.instantiable RX5 8) (by decide +kernel))
      exact ⟨(c, iS), fun q hq => by cases hq; exact h⟩
    | 5 =>
      obtain ⟨c, iS, h⟩ := u_known (C := RX6) (T := TX6) (N := 4) (n := 4) hts inX6 (hts (.instantiable RX6 4) (by decide +kernel))
      exact ⟨(c, iS), fun q hq => by cases hq; exact h⟩
    | 6 =>
      obtain ⟨c, iS, h⟩ := u_known (C := RX7) (T := TX7) (N := 17) (n := 17) hts inX7 (hts (.instantiable RX7 17) (by decide +kernel))
      exact ⟨(c, iS), fun q hq => by cases hq; exact h⟩
    | 7 =>
      obtain ⟨c, iS, h⟩ := u_known (C := RX8) (T := TX8) (N := 2) (n := 2) hts inX8 (hts (.instantiable RX8 2) (by decide +kernel))
      exact ⟨(c, iS), fun q hq => by cases hq; exact h⟩
    | 8 =>
      obtain ⟨c, iS, h⟩ := u_known (C := RX9) (T := TX9) (N := 6) (n := 6) hts inX9 (hts (.instantiable RX9 6) (by decide +kernel))
      exact ⟨(c, iS), fun q hq => by cases hq; exact h⟩
    | 9 =>
      obtain ⟨c, iS, h⟩ := u_known (C := RX10) (T := TX10) (N := 10) (n := 10) hts inX10 (hts (.instantiable RX10 10) (by decide +kernel))
      exact ⟨(c, iS), fun q hq => by cases hq; exact h⟩
    | 10 =>
      obtain ⟨c, iS, h⟩ := u_known (C := RX11) (T := TX11) (N := 15) (n := 15) hts inX11 (hts (.instantiable RX11 15) (by decide +kernel))
      exact ⟨(c, iS), fun q hq => by cases hq; exact h⟩
    | 11 =>
      obtain ⟨c, iS, h⟩ := u_known (C := RX12) (T := TX12) (N := 65) (n := 65) hts inX12 (hts (.instantiable RX12 65) (by decide +kernel))
      exact ⟨(c, iS), fun q hq => by cases hq; exact h⟩
    | k + 12 => exact ⟨(0, fun _ => 0), fun q h => by simp [vwCl] at h⟩
  obtain ⟨f, hf⟩ := Classical.axiomOfChoice h0
  exact ⟨fun k => (f k).1, fun k => (f k).2, fun k q hq => hf k q hq⟩
theorem ev_A {args : Array Value} {s : State} (hts : ∀ w ∈ lw_tbl, w.before args s = true) : ∃ cA : Nat → ClassId, ∀ i, i < 9 → ArrOfT s (cA (20 + i)) (xaty (20 + i)) ∧ va_RA s (cA (20 + i)) (xaty (20 + i)) := by
  have h0 : ∀ k : Nat, ∃ x : ClassId, ∀ i, i < 9 → 20 + i = k → ArrOfT s x (xaty k) ∧ va_RA s x (xaty k) := by
    intro k
    rcases Decidable.em (20 ≤ k ∧ k < 29) with hk | hk
    · have : k = 20 ∨ k = 21 ∨ k = 22 ∨ k = 23 ∨ k = 24 ∨ k = 25 ∨ k = 26 ∨ k = 27 ∨ k = 28 := by omega
      rcases this with rfl | rfl | rfl | rfl | rfl | rfl | rfl | rfl | rfl
      · obtain ⟨c, a, b⟩ := ev_aP (ty := .int) (fun C h => by cases h) (hts (.arrayClass .int) (by decide +kernel)); exact ⟨c, fun _ _ _ => ⟨a, b⟩⟩
      · obtain ⟨c, a, b⟩ := ev_aP (ty := .long) (fun C h => by cases h) (hts (.arrayClass .long) (by decide +kernel)); exact ⟨c, fun _ _ _ => ⟨a, b⟩⟩
      · obtain ⟨c, a, b⟩ := ev_aP (ty := .byte) (fun C h => by cases h) (hts (.arrayClass .byte) (by decide +kernel)); exact ⟨c, fun _ _ _ => ⟨a, b⟩⟩
      · obtain ⟨c, a, b⟩ := ev_aP (ty := .boolean) (fun C h => by cases h) (hts (.arrayClass .boolean) (by decide +kernel)); exact ⟨c, fun _ _ _ => ⟨a, b⟩⟩
      · obtain ⟨c, a, b⟩ := ev_aO (C := "LatestCoat$State") (hts (.arrayOver (.object "LatestCoat$State")) (by decide +kernel)); exact ⟨c, fun _ _ _ => ⟨a, b⟩⟩
      · obtain ⟨c, a, b⟩ := ev_aO (C := "LatestCoat$Rule") (hts (.arrayOver (.object "LatestCoat$Rule")) (by decide +kernel)); exact ⟨c, fun _ _ _ => ⟨a, b⟩⟩
      · obtain ⟨c, a, b⟩ := ev_aO (C := "LatestCoat$World") (hts (.arrayOver (.object "LatestCoat$World")) (by decide +kernel)); exact ⟨c, fun _ _ _ => ⟨a, b⟩⟩
      · obtain ⟨c, a, b⟩ := ev_aA (t := .long) (hts (.arrayOver (.array .long)) (by decide +kernel)); exact ⟨c, fun _ _ _ => ⟨a, b⟩⟩
      · obtain ⟨c, a, b⟩ := ev_aA (t := .int) (hts (.arrayOver (.array .int)) (by decide +kernel)); exact ⟨c, fun _ _ _ => ⟨a, b⟩⟩
    · exact ⟨0, fun i hi e => absurd ⟨by omega, by omega⟩ hk⟩
  obtain ⟨f, hf⟩ := Classical.axiomOfChoice h0
  exact ⟨f, fun i hi => hf (20 + i) i hi rfl⟩
theorem ev_xEv {s : State} {b L : Nat} {xs : Nat → Int32} (hts : ∀ w ∈ lw_tbl, w.before #[Value.ref b] s = true) (hX : va_X b L xs s s.heap) (hbl : b < s.heap.size) (hgv : (Jvm.Cond.and given_1 narrow_1).before #[Value.ref b] s = true) : ∃ E : xE, xEv E (s.heap.size - 1) s ∧ E.2.2.2.2.2.1 = b ∧ E.2.2.2.2.2.2.1 = L := by
  have hA : ∀ a : Nat, a < s.heap.size → ¬ xA (s.heap.size - 1) a := fun a h h' => by
    have : s.heap.size - 1 < a := h'
    omega
  have hf := flat_of_before _ hgv
  obtain ⟨dC, dI, hK⟩ := ev_K hts
  obtain ⟨cA, hcA⟩ := ev_A hts
  obtain ⟨adK, adV, hS, hT⟩ := ev_S hgv hA
  have hR := ev_R hts hT
  have hZ1 : va_Z "java/lang/String" "COMPACT_STRINGS" "Z" (.int 1) (xA (s.heap.size - 1)) s s.heap := va_Zof (hts (.laysStatic "java/lang/String" "COMPACT_STRINGS" "Z") (by decide +kernel)) (hts (.initialized "java/lang/String") (by decide +kernel)) (va_eqt (hf (.eq (.static "java/lang/String" "COMPACT_STRINGS" "Z") (.int 1)) (by decide +kernel))) hA
  have hZ2 : ∃ z : Nat, va_Z "jdk/internal/util/Preconditions" "SIOOBE_FORMATTER" "Ljava/util/function/BiFunction;" (if z = 0 then .null else .ref (z - 1)) (xA (s.heap.size - 1)) s s.heap := by
    rcases va_Zqof (hts (.laysStatic "jdk/internal/util/Preconditions" "SIOOBE_FORMATTER" "Ljava/util/function/BiFunction;") (by decide +kernel)) (hts (.initialized "jdk/internal/util/Preconditions") (by decide +kernel)) (hf (.isRef (.static "jdk/internal/util/Preconditions" "SIOOBE_FORMATTER" "Ljava/util/function/BiFunction;")) (by decide +kernel)) hA with h | ⟨t, h⟩
    · exact ⟨0, h⟩
    · exact ⟨t + 1, h⟩
  obtain ⟨z, hz⟩ := hZ2
  have hlt : ∀ i, i < 24 → (if i = 50 then z else adK i) = adK i := fun i hi => if_neg (by omega)
  refine ⟨evE dC dI cA adK adV z b L xs, ⟨⟨hK, ?_⟩, fun w hw => va_Nw.of (ev_nest w hw).2 (hts w (ev_nest w hw).1), ⟨va_AO.of (hts (.arrayOver (.object "LatestCoat$State")) (by decide +kernel)), va_AO.of (hts (.arrayOver (.object "LatestCoat$Rule")) (by decide +kernel)), va_AO.of (hts (.arrayOver (.object "LatestCoat$World")) (by decide +kernel)), hts (.arrayOver (.array .long)) (by decide +kernel), hts (.arrayOver (.array .int)) (by decide +kernel)⟩, ?_, ?_, ⟨hZ1, ?_⟩, ⟨hX, by show b ≤ s.heap.size - 1; omega⟩, by omega⟩, rfl, rfl⟩
  · intro k q hq
    have hk : k < 9 := by
      have := (List.getElem?_eq_some_iff.mp hq).1
      simpa [xtys] using this
    have e : q = (cA (20 + k), xaty (20 + k)) := by
      simp only [xtys, evE, List.getElem?_map, List.getElem?_range hk, Option.map_some] at hq
      exact (Option.some.inj hq).symm
    subst e
    exact hcA k hk
  · refine ⟨fun i hi => ?_, fun i j hi hj e => ?_⟩
    · show va_O _ (if i = 50 then z else adK i) _ _ _ ∧ va_OF _ _ _ _ (if i = 50 then z else adK i) _ _ _ ∧ va_OF _ _ _ _ (if i = 50 then z else adK i) _ _ _ ∧ _
      rw [hlt i hi]
      exact hS.1 i hi
    · have e' : (if i = 50 then z else adK i) = (if j = 50 then z else adK j) := e
      rw [hlt i hi, hlt j hj] at e'
      exact hS.2 i j hi hj e'
  · intro i q hq
    show vk_R q.1 q.2.1 q.2.2 (if i = 50 then z else adK i) s
    rw [hlt i (List.getElem?_eq_some_iff.mp hq).1]
    exact hR i q hq
  · exact hz
def hE0 : xH := (0, fun _ => (99, 0), fun _ _ => 0, fun _ _ => 0, fun _ _ => 0)
theorem start_of (hX0 : ∀ (E : xE) (B : Nat) (nm : String), E.2.2.2.2.2.2.1 ≤ 3072 → ∃ hf, X E B 1300 600000 7302250 ⟨RL, nm, "([I)Z"⟩ cL_law 4 (some .boolean) (some (.int 1), hf) 0 [(0, .retAddr 1000)] [] 0 0 hE0) {p : Program} {e : Env} {s : State} {m : MethodId} {below : List Frame} {meth : Method} {c : Code} (l : Launch) {b L : Nat} {xs : Nat → Int32} (hL : L ≤ 3072) (C0 : lw_At p s m meth c b L xs) : W p l e room_1 s m #[Value.ref b] below meth c s.heap [] 0 0 (lw_Z below #[Value.ref b] s) (entryFrame m ([Value.ref b] : List Value).toArray 4) := by
  obtain ⟨hx, hb, hr, hml, hown, hts, hX, hbl, hlocks, hgv⟩ := id C0
  obtain ⟨E, hEv, e1, e2⟩ := ev_xEv hts hX hbl hgv
  obtain ⟨hf, K⟩ := hX0 E (s.heap.size - 1) meth.name (by omega)
  have hl := lv_entry ([.ref b]) (n := 4) (Nat.le_of_ble_eq_true rfl)
  rw [lg_entry_eq]
  generalize (lg_sl ([.ref b]) ++ List.replicate (4 - (lg_sl ([.ref b])).length) Slot.unset).toArray = ls at hl ⊢
  have hl : lv_has ls 4 (xlv E (s.heap.size - 1) [(0, .retAddr 1000)]) := by
    have : xlv E (s.heap.size - 1) [(0, .retAddr 1000)] = [(0, .ref b)] := by
      show [(0, xsv E 1000)] = _
      simp [xsv, xsa, e1]
    rw [this]
    exact hl
  have hxF : xF E (s.heap.size - 1) ⟨RL, meth.name, "([I)Z"⟩ cL_law 4 (some .boolean) p s m #[Value.ref b] meth c := ⟨hx, hb, hr, hml, hown, fun w hw => hts w (List.mem_filter.mp hw).1, hlocks, rfl, hEv⟩
  have K2 := K p l e s m #[Value.ref b] below meth c s.heap [] ls hxF ⟨by show s.heap.size = s.heap.size - 1 + 0 + 1; omega, fun a h => absurd (show (99 : Nat) < 30 from h) (by decide)⟩ va_S.rf hl
  refine W_room (R' := xR 1300 600000 7302250) (by decide) (by decide) (by decide) (by decide) (W_post ?_ K2)
  rintro t ⟨o, h1, h2, ⟨⟨rfl, -⟩, -⟩, Lc, hF, hfree⟩
  refine ⟨_, h1, h2, rfl, hF.1, hF.2.1, hF.2.2.weaken (fun y hy hlt => ?_) (Nat.le_refl _) (Nat.le_refl _)⟩
  have a1 : Nat.lt (s.heap.size - 1) y.base := hfree y hy
  exact absurd hlt (Nat.not_lt.mpr (Nat.le_of_pred_lt a1))

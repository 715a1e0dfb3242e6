/-! new T[n][m] -/
def xmulti (h : xH) (t ti N M : Nat) : xH :=
  (h.1 + 1 + N, fun b => if b = h.1 + 1 then (t, N) else if h.1 + 2 ≤ b ∧ b ≤ h.1 + 1 + N then (ti, M) else h.2.1 b,
   fun b j => if b = h.1 + 1 then (if j < N then h.1 + 2 + j else 0) else if h.1 + 2 ≤ b ∧ b ≤ h.1 + 1 + N then 0 else h.2.2.1 b j,
   fun b j => if h.1 + 1 ≤ b ∧ b ≤ h.1 + 1 + N then 0 else h.2.2.2.1 b j, fun b j => if h.1 + 1 ≤ b ∧ b ≤ h.1 + 1 + N then 0 else h.2.2.2.2 b j)
theorem x_outer (B n0 : Nat) (c : ClassId) (N h0 : Nat) (e : h0 = B + n0 + 1) : ∀ i : Nat, Jvm.Free.Multi.outerC c N h0 i = arrV c N (fun j => xrf B (if j < i then n0 + 2 + j else 0))
  | 0 => by
    show ({ cls := c, slots := Array.replicate N .null, vm := .none } : Cell) = _
    rw [arrV_new]
    refine congrArg (arrV c N) (funext fun j => ?_)
    simp [xrf]
  | i + 1 => by
    show (Jvm.Free.Multi.outerC c N h0 i).setSlot i (.ref (h0 + 1 + i)) = _
    rw [x_outer B n0 c N h0 e i, arrV_store]
    refine congrArg (arrV c N) (funext fun j => ?_)
    by_cases ej : j = i
    · subst ej
      have : h0 + 1 + j = B + (n0 + 2 + j) := by omega
      simp [updV, xrf, this]
    · by_cases h : j < i
      · simp [updV, ej, h, Nat.lt_succ_of_lt h]
      · simp [updV, ej, h, show ¬ j < i + 1 by omega]
section XMU
variable {E : xE} {B d mc ms : Nat} {y : MethodName} {cc : ByteArray} {maxL : Nat} {ret : Option FieldType} {r : Option Value × xH} {pc : Nat} {lv lv' : List (Nat × Value)} {st : List Value} {u w : Nat} {h : xH}
theorem X_multi {idx t ti : Nat} {ty : FieldType} {n k : Int32} (h1 : (t = 27 ∧ ti = 21 ∧ ty = .long) ∨ (t = 28 ∧ ti = 20 ∧ ty = .int)) (hcl : Cond.classLink y.cls idx ("[" ++ (FieldType.array ty).toString) ∈ xTW) (hac : Cond.arrayClass ty ∈ xTW) (hn : ¬ n < 0) (hk : ¬ k < 0) (hb1 : ix n * 4 ≤ 536870912) (hb2 : ix k * componentBytes ty ≤ 536870912) (hb3 : ix k ≤ 536870912) (hu : u + (1 + ix n) ≤ mc ∧ w + (ix n + ix n * ix k) ≤ ms) (hd : decode cc pc = .ok (.multianewarray idx 2, 4))
    (kk : X E B d mc ms y cc maxL ret r (pc + 4) lv (.ref (h.1 + 1) :: st) (u + 1 + ix n) (w + ix n + ix n * ix k) (xmulti h t ti (ix n) (ix k))) : X E B d mc ms y cc maxL ret r pc lv (.int k :: .int n :: st) u w h := by
  intro p l e s m args below meth c H locs ls F hW hS hl T hT Xs
  have hts := F.2.2.2.2.2.1
  have hEv := F.2.2.2.2.2.2.2.2
  have hao : (Cond.arrayOver (.array ty)).before args s = true := by
    rcases h1 with ⟨-, -, rfl⟩ | ⟨-, -, rfl⟩
    · exact hEv.2.2.1.2.2.2.1
    · exact hEv.2.2.1.2.2.2.2
  have hty : xaty t = .array ty ∧ xaty ti = ty ∧ 20 ≤ t ∧ t < 29 ∧ 20 ≤ ti ∧ ti < 24 := by
    rcases h1 with ⟨rfl, rfl, rfl⟩ | ⟨rfl, rfl, rfl⟩ <;> exact ⟨rfl, rfl, by decide, by decide, by decide, by decide⟩
  have hT1 := (hEv.1.2 _ _ (x_tys (t := t) (by omega) (by omega))).2
  have hT2 := (hEv.1.2 _ _ (x_tys (t := ti) (by omega) (by omega))).2
  have eT1 : s.vm.findClass ("[" ++ (FieldType.array ty).toString) = some (E.2.2.1 t) := by
    rcases h1 with ⟨rfl, rfl, rfl⟩ | ⟨rfl, rfl, rfl⟩ <;> exact hT1
  have eT2 : s.vm.findClass (FieldType.array ty).toString = some (E.2.2.1 ti) := by
    rcases h1 with ⟨rfl, rfl, rfl⟩ | ⟨rfl, rfl, rfl⟩ <;> exact hT2
  obtain ⟨vm₁, cA, comp, -, fA, fC, hO, -, X', step⟩ := Xs.multianewarray2F F.1 F.2.2.2.2.1 (hts _ hcl) hao (hts _ hac) (g := F0 m pc ls (.int k :: .int n :: st.map (xv E B))) rfl (by rw [F.2.1]; exact hd) rfl hn hk hb1 hb2 hb3 (by rcases h1 with ⟨rfl, rfl, rfl⟩ | ⟨rfl, rfl, rfl⟩ <;> rfl) (by rcases h1 with ⟨rfl, rfl, rfl⟩ | ⟨rfl, rfl, rfl⟩ <;> rfl) hu.1 hu.2
  have ecA : cA = E.2.2.1 t := Option.some.inj (fA.symm.trans eT1)
  have ecI : comp = E.2.2.1 ti := Option.some.inj (fC.symm.trans eT2)
  subst ecA
  subst ecI
  generalize hF : Jvm.Free.Multi.fill (T.setVm vm₁) (E.2.2.1 t) (E.2.2.1 ti) n.toNatClampNeg k.toNatClampNeg (defaultValue ty) n.toNatClampNeg = Fs at X' step
  have hTh : (T.setVm vm₁).heap = H := hT
  obtain ⟨f1, f2, -, -⟩ := Jvm.Free.Multi.fill_facts (T.setVm vm₁) (E.2.2.1 t) (E.2.2.1 ti) n.toNatClampNeg k.toNatClampNeg (defaultValue ty) n.toNatClampNeg
  rw [hF, hTh] at f1 f2
  have hold : ∀ x : Nat, x < H.size → Fs.heap[x]? = H[x]? := fun x hx => by
    have := Jvm.Free.Multi.fill_old (T.setVm vm₁) (E.2.2.1 t) (E.2.2.1 ti) n.toNatClampNeg k.toNatClampNeg (defaultValue ty) (a := x) (by rw [hTh]; exact hx) n.toNatClampNeg
    rw [hF, hTh] at this
    exact this
  have hrow : ∀ j : Nat, j < n.toNatClampNeg → Fs.heap[H.size + 1 + j]? = some (arrV (E.2.2.1 ti) k.toNatClampNeg (fun _ => defaultValue ty)) := fun j hj => by
    have := Jvm.Free.Multi.fill_inner (T.setVm vm₁) (E.2.2.1 t) (E.2.2.1 ti) n.toNatClampNeg k.toNatClampNeg (defaultValue ty) n.toNatClampNeg j hj
    rw [hF, hTh] at this
    rw [this]
    show some ({ cls := E.2.2.1 ti, slots := Array.replicate k.toNatClampNeg (defaultValue ty), vm := .none } : Cell) = _
    rw [arrV_new]
  rw [x_outer B h.1 _ _ H.size hW.1] at f2
  have hsz := hW.1
  have hWn : xW E B (xmulti h t ti (ix n) (ix k)) Fs.heap := by
    refine ⟨?_, fun b hb => ?_⟩
    · show Fs.heap.size = B + (h.1 + 1 + ix n) + 1
      rw [f1, hsz]
      show B + h.1 + 1 + 1 + ix n = _
      omega
    · by_cases e1 : b = h.1 + 1
      · subst e1
        refine ⟨by omega, by show h.1 + 1 ≤ h.1 + 1 + ix n; omega, xC_arr (t := t) (n := ix n) ?_ (by omega) ?_⟩
        · simp [xmulti]
        · rw [show B + (h.1 + 1) = H.size by omega, f2]
          refine congrArg some (congrArg (arrV _ _) (funext fun j => ?_))
          have t1 : ¬ t = 21 := by omega
          have t2 : 24 ≤ t := by omega
          simp [xav, t1, t2, xmulti]
      · by_cases e2 : h.1 + 2 ≤ b ∧ b ≤ h.1 + 1 + ix n
        · refine ⟨by omega, e2.2, xC_arr (t := ti) (n := ix k) ?_ (by omega) ?_⟩
          · simp [xmulti, e1, e2]
          · rw [show B + b = H.size + 1 + (b - (h.1 + 2)) by omega, hrow _ (by show b - (h.1 + 2) < ix n; omega)]
            refine congrArg some (congrArg (arrV _ _) (funext fun j => ?_))
            have e3 : h.1 + 1 ≤ b ∧ b ≤ h.1 + 1 + ix n := by omega
            rcases h1 with ⟨rfl, rfl, rfl⟩ | ⟨rfl, rfl, rfl⟩ <;> simp [xav, xmulti, e3, defaultValue]
        · have e3 : ¬ (h.1 + 1 ≤ b ∧ b ≤ h.1 + 1 + ix n) := by omega
          have hb2 : (h.2.1 b).1 < 30 := by
            have : (xmulti h t ti (ix n) (ix k)).2.1 b = h.2.1 b := by simp [xmulti, e1, e2]
            rw [this] at hb; exact hb
          obtain ⟨p1, p2, p3⟩ := hW.2 b hb2
          refine ⟨p1, by show b ≤ h.1 + 1 + ix n; omega, xC_congr ⟨?_, ?_, ?_, ?_⟩ (hold _ (by omega)) p3⟩
          · simp [xmulti, e1, e2]
          · funext j; simp [xmulti, e1, e2]
          · funext j; simp [xmulti, e3]
          · funext j; simp [xmulti, e3]
  obtain ⟨t2, a1, b1⟩ := kk p l e s m args below meth c Fs.heap locs ls F hWn (xS_new hS (by rw [f1]; omega) hold) hl Fs rfl X'
  refine ⟨t2, step t2 ?_, b1⟩
  have ea : xv E B (.ref (h.1 + 1)) = .ref T.heap.size := by
    rw [hT, hsz, show B + h.1 + 1 = B + (h.1 + 1) by omega]
    exact xrf_p B (by omega)
  rw [List.map_cons, ea] at a1
  exact a1
end XMU

/-! Small rows for the printed walks. -/
theorem og {α : Type} {c : Prop} [Decidable c] {x : Option α} {q : α} (h : (if c then x else none) = some q) : c ∧ x = some q := by
  by_cases hc : c
  · rw [if_pos hc] at h; exact ⟨hc, h⟩
  · rw [if_neg hc] at h; cases h
theorem ob {α β : Type} {x : Option α} {f : α → Option β} {q : β} (h : x.bind f = some q) : ∃ v, x = some v ∧ f v = some q := by
  cases x with
  | none => cases h
  | some v => exact ⟨v, rfl, h⟩
theorem ip {α : Type} {c : Prop} [Decidable c] {a b : Option α} {q : α} (hc : c) (h : (if c then a else b) = some q) : a = some q := by rwa [if_pos hc] at h
theorem iq {α : Type} {c : Prop} [Decidable c] {a b : Option α} {q : α} (hc : ¬ c) (h : (if c then a else b) = some q) : b = some q := by rwa [if_neg hc] at h
def xf : Nat := 1000000
theorem sw_out {x : Int32} {lo hi : Int} (n : Nat) (hn : lo + n = hi + 1) (h : ∀ i : Nat, i < n → x ≠ Int32.ofInt (lo + i)) : x.toInt < lo ∨ hi < x.toInt := by
  by_cases h1 : x.toInt < lo
  · exact Or.inl h1
  · by_cases h2 : hi < x.toInt
    · exact Or.inr h2
    · have := h (x.toInt - lo).toNat (by omega)
      rw [show lo + ((x.toInt - lo).toNat : Int) = x.toInt by omega, Int32.ofInt_toInt] at this
      exact absurd rfl this
section XWR
variable {E : xE} {B d mc ms : Nat} {y : MethodName} {cc : ByteArray} {maxL : Nat} {ret : Option FieldType} {r : Option Value × xH} {pc : Nat} {lv lv' : List (Nat × Value)} {st : List Value} {u w : Nat} {h : xH}
theorem X_getPe {idx ci k z a b : Nat} (hf : xFL y.cls idx ci k) (hk : h.2.1 a = (ci, z)) (ht : xkd (xty ci k) = 2) (e : h.2.2.1 a k = b) (hd : decode cc pc = .ok (.getfield idx, 3)) (kk : X E B d mc ms y cc maxL ret r (pc + 3) lv (.ref b :: st) u w h) : X E B d mc ms y cc maxL ret r pc lv (.ref a :: st) u w h := by
  subst e
  exact X_getP hf hk ht hd kk
theorem X_ialdJ {a n j : Nat} {i : Int32} (hk : h.2.1 a = (20, n)) (hin : inb i n = true) (hj : ix i = j) (hd : decode cc pc = .ok (.iaload, 1)) (kk : X E B d mc ms y cc maxL ret r (pc + 1) lv (.int (h.2.2.2.1 a j) :: st) u w h) : X E B d mc ms y cc maxL ret r pc lv (.int i :: .ref a :: st) u w h := by
  subst hj
  exact X_iald hk hin hd kk
theorem X_laldJ {a n j : Nat} {i : Int32} (hk : h.2.1 a = (21, n)) (hin : inb i n = true) (hj : ix i = j) (hd : decode cc pc = .ok (.laload, 1)) (kk : X E B d mc ms y cc maxL ret r (pc + 1) lv (.long (h.2.2.2.2 a j) :: st) u w h) : X E B d mc ms y cc maxL ret r pc lv (.int i :: .ref a :: st) u w h := by
  subst hj
  exact X_lald hk hin hd kk
theorem X_baldJ {a n j : Nat} {i : Int32} (hk : h.2.1 a = (22, n)) (hin : inb i n = true) (hj : ix i = j) (hd : decode cc pc = .ok (.baload, 1)) (kk : X E B d mc ms y cc maxL ret r (pc + 1) lv (.int (h.2.2.2.1 a j) :: st) u w h) : X E B d mc ms y cc maxL ret r pc lv (.int i :: .ref a :: st) u w h := by
  subst hj
  exact X_bald hk hin hd kk
theorem X_zaldJ {a n j : Nat} {i : Int32} (hk : h.2.1 a = (23, n)) (hin : inb i n = true) (hj : ix i = j) (hd : decode cc pc = .ok (.baload, 1)) (kk : X E B d mc ms y cc maxL ret r (pc + 1) lv (.int (h.2.2.2.1 a j) :: st) u w h) : X E B d mc ms y cc maxL ret r pc lv (.int i :: .ref a :: st) u w h := by
  subst hj
  exact X_zald hk hin hd kk
theorem X_aaldJ {a n t b : Nat} {i : Int32} (hk : h.2.1 a = (t, n)) (ht : 24 ≤ t ∧ t < 29) (hr : (xaty t).isReference = true) (hin : inb i n = true) (e : h.2.2.1 a (ix i) = b) (hd : decode cc pc = .ok (.aaload, 1)) (kk : X E B d mc ms y cc maxL ret r (pc + 1) lv (.ref b :: st) u w h) : X E B d mc ms y cc maxL ret r pc lv (.int i :: .ref a :: st) u w h := by
  subst e
  exact X_aald hk ht.1 ht.2 hr hin hd kk
section M5
variable {n2 : Nat} {K : Nat → Nat × Nat} {P : Nat → Nat → Nat} {I : Nat → Nat → Int32} {L : Nat → Nat → Int64}
theorem X_iastJ {a n j : Nat} {i : Int32} {x : Int32} (hk : K a = (20, n)) (hin : inb i n = true) (hj : ix i = j) (hd : decode cc pc = .ok (.iastore, 1)) (kk : X E B d mc ms y cc maxL ret r (pc + 1) lv st u w (n2, K, P, xu I a j x, L)) : X E B d mc ms y cc maxL ret r pc lv (.int x :: .int i :: .ref a :: st) u w (n2, K, P, I, L) := by
  subst hj
  exact X_iast hk hin hd kk
theorem X_lastJ {a n j : Nat} {i : Int32} {x : Int64} (hk : K a = (21, n)) (hin : inb i n = true) (hj : ix i = j) (hd : decode cc pc = .ok (.lastore, 1)) (kk : X E B d mc ms y cc maxL ret r (pc + 1) lv st u w (n2, K, P, I, xu L a j x)) : X E B d mc ms y cc maxL ret r pc lv (.long x :: .int i :: .ref a :: st) u w (n2, K, P, I, L) := by
  subst hj
  exact X_last hk hin hd kk
theorem X_bastJ {a n j : Nat} {i : Int32} {x : Int32} (hk : K a = (22, n)) (hin : inb i n = true) (hj : ix i = j) (hd : decode cc pc = .ok (.bastore, 1)) (kk : X E B d mc ms y cc maxL ret r (pc + 1) lv st u w (n2, K, P, xu I a j (xi2b x), L)) : X E B d mc ms y cc maxL ret r pc lv (.int x :: .int i :: .ref a :: st) u w (n2, K, P, I, L) := by
  subst hj
  exact X_bast hk hin hd kk
theorem X_zastJ {a n j : Nat} {i : Int32} {x : Int32} (hk : K a = (23, n)) (hin : inb i n = true) (hz : x = 0 ∨ x = 1) (hj : ix i = j) (hd : decode cc pc = .ok (.bastore, 1)) (kk : X E B d mc ms y cc maxL ret r (pc + 1) lv st u w (n2, K, P, xu I a j x, L)) : X E B d mc ms y cc maxL ret r pc lv (.int x :: .int i :: .ref a :: st) u w (n2, K, P, I, L) := by
  subst hj
  exact X_zast hk hin hz hd kk
end M5
theorem X_swK {dflt lo hi : Int} {offs : Array Int} {len : Nat} {x kv : Int32} {off : Int} {tgt : Nat} (hx : x = kv) (hd : decode cc pc = .ok (.tableswitch dflt lo hi offs, len)) (h1 : ¬ kv.toInt < lo) (h2 : ¬ hi < kv.toInt) (ho : offs[(kv.toInt - lo).toNat]? = some off) (ht : (pc : Int) + off = (tgt : Int)) (kk : X E B d mc ms y cc maxL ret r tgt lv st u w h) : X E B d mc ms y cc maxL ret r pc lv (.int x :: st) u w h := by
  subst hx
  exact X_tableIn hd h1 h2 ho ht kk
theorem X_lkK {dflt : Int} {ps : Array (Int × Int)} {len : Nat} {x kv : Int32} {off : Int} {tgt : Nat} (hx : x = kv) (hd : decode cc pc = .ok (.lookupswitch dflt ps, len)) (hp : (ps.toList.zip (ps.toList.drop 1)).all (fun (a, next) => a.1 < next.1) = true) (ho : Op.lookupswitch.offset ps.toList dflt kv.toInt = off) (ht : (pc : Int) + off = (tgt : Int)) (kk : X E B d mc ms y cc maxL ret r tgt lv st u w h) : X E B d mc ms y cc maxL ret r pc lv (.int x :: st) u w h := by
  subst hx
  exact X_lookup hd hp ho ht kk
theorem X_cV1 {idx ci z a n d2 maxL2 : Nat} {y2 : MethodName} {cc2 : ByteArray} {ret2 : Option FieldType} {as stk : List Value} {v : Value} {h2 : xH} (hM : MX E B d2 0 0 y2 cc2 maxL2 ret2 (.ref a :: as) h (some v, h2)) (hL : xML y.cls idx y2 cc2 maxL2 ret2 n) (hI : Cond.instanceMethod y2 ∈ xTW ∧ Cond.selects (xRN ci) y2 y2 ∈ xTW) (hcl : y2.cls = xRN ci) (hcf : xCF ci) (hk : h.2.1 a = (ci, z)) (hs : as.reverse ++ .ref a :: st = stk) (hn : as.length = n) (hd2 : d2 + 1 ≤ d) (hu : u ≤ mc ∧ w ≤ ms) (hrm : (st.map (fun v => v.category)).sum ≤ 8) (hd : decode cc pc = .ok (.invokevirtual idx, 3))
    (kk : X E B d mc ms y cc maxL ret r (pc + 3) lv (v :: st) u w h2) : X E B d mc ms y cc maxL ret r pc lv stk u w h := X_callV hM hL hI hcl hcf hk hs hn hd2 hu hrm hd kk
theorem X_cV0 {idx ci z a n d2 maxL2 : Nat} {y2 : MethodName} {cc2 : ByteArray} {ret2 : Option FieldType} {as stk : List Value} {h2 : xH} (hM : MX E B d2 0 0 y2 cc2 maxL2 ret2 (.ref a :: as) h (none, h2)) (hL : xML y.cls idx y2 cc2 maxL2 ret2 n) (hI : Cond.instanceMethod y2 ∈ xTW ∧ Cond.selects (xRN ci) y2 y2 ∈ xTW) (hcl : y2.cls = xRN ci) (hcf : xCF ci) (hk : h.2.1 a = (ci, z)) (hs : as.reverse ++ .ref a :: st = stk) (hn : as.length = n) (hd2 : d2 + 1 ≤ d) (hu : u ≤ mc ∧ w ≤ ms) (hrm : (st.map (fun v => v.category)).sum ≤ 8) (hd : decode cc pc = .ok (.invokevirtual idx, 3))
    (kk : X E B d mc ms y cc maxL ret r (pc + 3) lv st u w h2) : X E B d mc ms y cc maxL ret r pc lv stk u w h := X_callV hM hL hI hcl hcf hk hs hn hd2 hu hrm hd kk
theorem X_cS1 {idx n d2 maxL2 : Nat} {y2 : MethodName} {cc2 : ByteArray} {ret2 : Option FieldType} {as stk : List Value} {v : Value} {h2 : xH} (hM : MX E B d2 0 0 y2 cc2 maxL2 ret2 as h (some v, h2)) (hL : xML y.cls idx y2 cc2 maxL2 ret2 n) (hI : Cond.static y2 ∈ xTW) (hs : as.reverse ++ st = stk) (hn : as.length = n) (hd2 : d2 + 1 ≤ d) (hu : u ≤ mc ∧ w ≤ ms) (hrm : (st.map (fun v => v.category)).sum ≤ 8) (hd : decode cc pc = .ok (.invokestatic idx, 3))
    (kk : X E B d mc ms y cc maxL ret r (pc + 3) lv (v :: st) u w h2) : X E B d mc ms y cc maxL ret r pc lv stk u w h := X_callS hM hL hI hs hn hd2 hu hrm hd kk
theorem X_cS0 {idx n d2 maxL2 : Nat} {y2 : MethodName} {cc2 : ByteArray} {ret2 : Option FieldType} {as stk : List Value} {h2 : xH} (hM : MX E B d2 0 0 y2 cc2 maxL2 ret2 as h (none, h2)) (hL : xML y.cls idx y2 cc2 maxL2 ret2 n) (hI : Cond.static y2 ∈ xTW) (hs : as.reverse ++ st = stk) (hn : as.length = n) (hd2 : d2 + 1 ≤ d) (hu : u ≤ mc ∧ w ≤ ms) (hrm : (st.map (fun v => v.category)).sum ≤ 8) (hd : decode cc pc = .ok (.invokestatic idx, 3))
    (kk : X E B d mc ms y cc maxL ret r (pc + 3) lv st u w h2) : X E B d mc ms y cc maxL ret r pc lv stk u w h := X_callS hM hL hI hs hn hd2 hu hrm hd kk
theorem X_cT1 {idx k n d2 maxL2 : Nat} {y2 : MethodName} {cc2 : ByteArray} {ret2 : Option FieldType} {as stk : List Value} {v : Value} {h2 : xH} (hM : MX E B d2 0 0 y2 cc2 maxL2 ret2 (.retAddr k :: as) h (some v, h2)) (hL : xML y.cls idx y2 cc2 maxL2 ret2 n) (hI : Cond.instanceMethod y2 ∈ xTW ∧ Cond.selects "java/lang/String" y2 y2 ∈ xTW) (hcl : y2.cls = "java/lang/String") (hk : k < 24) (hs : as.reverse ++ .retAddr k :: st = stk) (hn : as.length = n) (hd2 : d2 + 1 ≤ d) (hu : u ≤ mc ∧ w ≤ ms) (hrm : (st.map (fun v => v.category)).sum ≤ 8) (hd : decode cc pc = .ok (.invokevirtual idx, 3))
    (kk : X E B d mc ms y cc maxL ret r (pc + 3) lv (v :: st) u w h2) : X E B d mc ms y cc maxL ret r pc lv stk u w h := X_callT hM hL hI hcl hk hs hn hd2 hu hrm hd kk
end XWR
theorem x_nz {v : Int32} (h : v = 0 ∨ v = 1) : narrow .boolean (.int v) = .int v := by rcases h with e | e <;> subst e <;> rfl
theorem x_nc (x : Int32) : narrow .char (.int (xi2c x)) = .int (xi2c x) := pk_nc x
theorem lk_ne {x k : Int32} {v : Int} (h : ¬ x = k) (e : k.toInt = v) : ¬ x.toInt = v := fun z => h (Int32.toInt_inj.mp (z.trans e.symm))
theorem lk_out : ∀ (l : List (Int × Int)) (df : Int) {x : Int32}, (∀ v ∈ l.map (fun p => p.1), ¬ x.toInt = v) → Op.lookupswitch.offset l df x.toInt = df
  | [], _, _, _ => rfl
  | (a, o) :: r, df, x, h => by
    rw [Op.lookupswitch.offset_cons, if_neg (fun e => h a (by simp) e.symm)]
    exact lk_out r df (fun v hv => h v (by simp only [List.map_cons, List.mem_cons]; exact Or.inr hv))
theorem x_ng {v : Int32} (h : xi2c v = v) : narrow .char (.int v) = .int v := by
  have := x_nc v
  rwa [h] at this

/-! The judgement X: a method's frame over a typed memory, and what it stands on. -/
abbrev xH : Type := Nat × (Nat → Nat × Nat) × (Nat → Nat → Nat) × (Nat → Nat → Int32) × (Nat → Nat → Int64)
abbrev xE : Type := (Nat → ClassId) × (Nat → Nat → Nat) × (Nat → ClassId) × (Nat → Nat) × (Nat → Nat) × Nat × Nat × (Nat → Int32)
def xA (B : Nat) : Nat → Prop := fun q => B < q
def xrf (B a : Nat) : Value := if a = 0 then .null else .ref (B + a)
/-- texts (below 100), their bytes (from 100 on), the script (1000) -/
def xsa (E : xE) (k : Nat) : Nat := if k < 100 then E.2.2.2.1 k else if k < 1000 then E.2.2.2.2.1 (k - 100) else E.2.2.2.2.2.1
def xsv (E : xE) (k : Nat) : Value := if k = 50 then (if E.2.2.2.1 50 = 0 then .null else .ref (E.2.2.2.1 50 - 1)) else .ref (xsa E k)
theorem xsv_or (E : xE) (k : Nat) : xsv E k = .null ∨ ∃ q, xsv E k = .ref q := by
  unfold xsv
  by_cases h : k = 50
  · rw [if_pos h]
    by_cases h2 : E.2.2.2.1 50 = 0
    · exact Or.inl (if_pos h2)
    · exact Or.inr ⟨_, if_neg h2⟩
  · exact Or.inr ⟨_, if_neg h⟩
def xv (E : xE) (B : Nat) : Value → Value
  | .ref a => xrf B a
  | .float x => .float x
  | .retAddr k => xsv E k
  | .int i => .int i
  | .long i => .long i
  | .null => .null
  | .double x => .double x
def xisR : Value → Bool
  | .ref _ => true
  | .retAddr _ => true
  | _ => false
theorem xrf_0 (B : Nat) : xrf B 0 = .null := rfl
theorem xrf_p (B : Nat) {a : Nat} (h : a ≠ 0) : xrf B a = .ref (B + a) := if_neg h
theorem xrf_or (B a : Nat) : xrf B a = .null ∨ ∃ q, xrf B a = .ref q := by
  by_cases h : a = 0
  · exact Or.inl (if_pos h)
  · exact Or.inr ⟨_, if_neg h⟩
theorem xv_or (E : xE) (B : Nat) {v : Value} (h : xisR v = true) : xv E B v = .null ∨ ∃ q, xv E B v = .ref q := by
  cases v with
  | ref a => exact xrf_or B a
  | retAddr k => exact xsv_or E k
  | _ => cases h
theorem xv_cat (E : xE) (B : Nat) (v : Value) : (xv E B v).category = v.category := by
  cases v with
  | ref a => rcases xrf_or B a with h | ⟨q, h⟩ <;> (show (xrf B a).category = _; rw [h]; rfl)
  | retAddr k => rcases xsv_or E k with h | ⟨q, h⟩ <;> (show (xsv E k).category = _; rw [h]; rfl)
  | _ => rfl
-- the classes, by their places in vwCl
def xty (c : Nat) : Nat → FieldType := match c with
  | 0 => tyX1 | 1 => tyX2 | 2 => tyX3 | 3 => tyX4 | 4 => tyX5 | 5 => tyX6 | 6 => tyX7 | 7 => tyX8 | 8 => tyX9 | 9 => tyX10 | 10 => tyX11 | _ => tyX12
def xT (c : Nat) : u_T := match c with
  | 0 => TX1 | 1 => TX2 | 2 => TX3 | 3 => TX4 | 4 => TX5 | 5 => TX6 | 6 => TX7 | 7 => TX8 | 8 => TX9 | 9 => TX10 | 10 => TX11 | _ => TX12
def xN (c : Nat) : Nat := match c with
  | 0 => 7 | 1 => 7 | 2 => 3 | 3 => 7 | 4 => 8 | 5 => 4 | 6 => 17 | 7 => 2 | 8 => 6 | 9 => 10 | 10 => 15 | _ => 65
def xRN (c : Nat) : String := match c with
  | 0 => RX1 | 1 => RX2 | 2 => RX3 | 3 => RX4 | 4 => RX5 | 5 => RX6 | 6 => RX7 | 7 => RX8 | 8 => RX9 | 9 => RX10 | 10 => RX11 | _ => RX12
def xaty (t : Nat) : FieldType := match t with
  | 20 => .int | 21 => .long | 22 => .byte | 23 => .boolean | 24 => .object "LatestCoat$State" | 25 => .object "LatestCoat$Rule" | 26 => .object "LatestCoat$World" | 27 => .array .long | _ => .array .int
def xfv (B : Nat) (h : xH) (a : Nat) (ty : FieldType) (k : Nat) : Value := match ty with
  | .long => .long (h.2.2.2.2 a k)
  | .object _ => xrf B (h.2.2.1 a k)
  | .array _ => xrf B (h.2.2.1 a k)
  | _ => .int (h.2.2.2.1 a k)
def xkd : FieldType → Nat
  | .long => 1
  | .object _ => 2
  | .array _ => 2
  | _ => 0
theorem xfv_I {B : Nat} {h : xH} {a k : Nat} {ty : FieldType} (e : xkd ty = 0) : xfv B h a ty k = .int (h.2.2.2.1 a k) := by
  cases ty <;> first | rfl | (exact absurd e (by simp [xkd]))
theorem xfv_L {B : Nat} {h : xH} {a k : Nat} {ty : FieldType} (e : xkd ty = 1) : xfv B h a ty k = .long (h.2.2.2.2 a k) := by
  cases ty <;> first | rfl | (exact absurd e (by simp [xkd]))
theorem xfv_P {B : Nat} {h : xH} {a k : Nat} {ty : FieldType} (e : xkd ty = 2) : xfv B h a ty k = xrf B (h.2.2.1 a k) := by
  cases ty <;> first | rfl | (exact absurd e (by simp [xkd]))
def xav (B : Nat) (h : xH) (a t j : Nat) : Value := if t = 21 then .long (h.2.2.2.2 a j) else if 24 ≤ t then xrf B (h.2.2.1 a j) else .int (h.2.2.2.1 a j)
def xC (E : xE) (B : Nat) (h : xH) (a : Nat) (H : Heap) : Prop :=
  if (h.2.1 a).1 < 20 then (h.2.1 a).1 < 12 ∧ t_OB (B + a) (E.1 (h.2.1 a).1) (xN (h.2.1 a).1) (E.2.1 (h.2.1 a).1) H (fun k => xfv B h a (xty (h.2.1 a).1 k) k)
  else H[B + a]? = some (arrV (E.2.2.1 (h.2.1 a).1) (h.2.1 a).2 (xav B h a (h.2.1 a).1))
def xW (E : xE) (B : Nat) (h : xH) (H : Heap) : Prop := H.size = B + h.1 + 1 ∧ ∀ a, (h.2.1 a).1 < 30 → 1 ≤ a ∧ a ≤ h.1 ∧ xC E B h a H
def xag (h h' : xH) (b : Nat) : Prop := h'.2.1 b = h.2.1 b ∧ h'.2.2.1 b = h.2.2.1 b ∧ h'.2.2.2.1 b = h.2.2.2.1 b ∧ h'.2.2.2.2 b = h.2.2.2.2 b
theorem xC_congr {E : xE} {B : Nat} {h h' : xH} {b : Nat} {H H' : Heap} (e : xag h h' b) (hH : H'[B + b]? = H[B + b]?) (k : xC E B h b H) : xC E B h' b H' := by
  obtain ⟨e1, e2, e3, e4⟩ := e
  unfold xC at k ⊢
  rw [e1]
  by_cases ht : (h.2.1 b).1 < 20
  · rw [if_pos ht] at k ⊢
    refine ⟨k.1, (k.2.kept hH).to (fun j _ => ?_)⟩
    show xfv B h b _ j = xfv B h' b _ j
    unfold xfv
    rw [e2, e3, e4]
  · rw [if_neg ht] at k ⊢
    rw [hH, k]
    congr 2
    funext j
    unfold xav
    rw [e2, e3, e4]
theorem xW_upd {E : xE} {B : Nat} {h h' : xH} {a : Nat} {H H' : Heap} (hW : xW E B h H) (h1 : h'.1 = h.1) (ho : ∀ b, b ≠ a → xag h h' b) (ha : h'.2.1 a = h.2.1 a) (z : H'.size = H.size) (o : ∀ q, q ≠ B + a → H'[q]? = H[q]?) (c : xC E B h' a H') : xW E B h' H' := by
  refine ⟨by rw [z, h1]; exact hW.1, fun b hb => ?_⟩
  by_cases e : b = a
  · subst e
    rw [ha] at hb
    obtain ⟨p1, p2, -⟩ := hW.2 b hb
    exact ⟨p1, by rw [h1]; exact p2, c⟩
  · have g := ho b e
    rw [g.1] at hb
    obtain ⟨p1, p2, p3⟩ := hW.2 b hb
    exact ⟨p1, by rw [h1]; exact p2, xC_congr g (o _ (by omega)) p3⟩
def xu {α : Type} (f : Nat → Nat → α) (a k : Nat) (v : α) : Nat → Nat → α := fun b j => if b = a ∧ j = k then v else f b j
theorem xu_ne {α : Type} {f : Nat → Nat → α} {a k b : Nat} {v : α} (h : b ≠ a) : xu f a k v b = f b := by
  funext j
  simp [xu, h]
theorem xu_at {α : Type} {f : Nat → Nat → α} {a k j : Nat} {v : α} : xu f a k v a j = if j = k then v else f a j := by
  simp [xu]
-- words
def xTW : List Cond := lw_tbl.filter goodWord
theorem xTW_in {w : Cond} (h : w ∈ lw_tbl) (g : goodWord w = true) : w ∈ xTW := List.mem_filter.mpr ⟨h, g⟩
theorem xTW_GI : GoodIn xTW xTW := fun w hw => ⟨hw, good_of_word (List.mem_filter.mp hw).2⟩
abbrev xws (y : MethodName) (cc : ByteArray) (maxL : Nat) (ret : Option FieldType) : List Cond := Cond.code y cc maxL ret :: xTW
def xR (d mc ms : Nat) : Room := { frames := d, cells := mc, slots := ms, locals := 64 * d }
def xtys (E : xE) : List (ClassId × FieldType) := (List.range 9).map (fun i => (E.2.2.1 (20 + i), xaty (20 + i)))
def xNest : List Cond := [.methodLinkNest "LatestCoat" 15 ⟨"LatestCoat$Tokens", "<init>", "()V"⟩ "LatestCoat", .methodLinkNest "LatestCoat$World" 11 ⟨"LatestCoat$Street", "<init>", "()V"⟩ "LatestCoat", .methodLinkNest "LatestCoat$Street" 35 ⟨"LatestCoat$State", "<init>", "()V"⟩ "LatestCoat", .methodLinkNest "LatestCoat$World" 20 ⟨"LatestCoat$State", "<init>", "()V"⟩ "LatestCoat", .methodLinkNest "LatestCoat" 48 ⟨"LatestCoat$State", "<init>", "()V"⟩ "LatestCoat", .methodLinkNest "LatestCoat" 55 ⟨"LatestCoat$Hours", "<init>", "()V"⟩ "LatestCoat", .methodLinkNest "LatestCoat" 62 ⟨"LatestCoat$Game", "<init>", "()V"⟩ "LatestCoat", .methodLinkNest "LatestCoat" 69 ⟨"LatestCoat$Scraping", "<init>", "()V"⟩ "LatestCoat", .methodLinkNest "LatestCoat$StreetReader" 11 ⟨"LatestCoat$Street", "<init>", "()V"⟩ "LatestCoat", .castable "[I" "java/lang/Cloneable"]

def xSt : List (String × Nat × String) := [("LatestCoat$Tokens", 69, "painter cell thing rent top wet whose mine owner coats purse hour rain street coat bare suit paint if and or not "), ("LatestCoat$Tokens", 61, "+-*/%<=>[];"), ("LatestCoatModel", 295, "street"), ("LatestCoatModel", 179, "thing"), ("LatestCoatModel", 175, "painter"), ("LatestCoatModel", 297, "coat"), ("LatestCoatModel", 299, "bare"), ("LatestCoatModel", 197, "rain"), ("LatestCoatModel", 301, "suit"), ("LatestCoatModel", 352, "paint"), ("LatestCoatModel", 177, "cell"), ("LatestCoatModel", 181, "rent"), ("LatestCoatModel", 182, "top"), ("LatestCoatModel", 184, "wet"), ("LatestCoatModel", 186, "whose"), ("LatestCoatModel", 188, "mine"), ("LatestCoatModel", 190, "owner"), ("LatestCoatModel", 192, "coats"), ("LatestCoatModel", 194, "purse"), ("LatestCoatModel", 195, "hour"), ("LatestCoatModel", 354, "if"), ("LatestCoatModel", 277, "not"), ("LatestCoatModel", 291, "and"), ("LatestCoatModel", 293, "or")]
def xSl : List Nat := [113, 11, 6, 5, 7, 4, 4, 4, 4, 5, 4, 4, 3, 3, 5, 4, 5, 5, 5, 4, 2, 3, 3, 2]
def xSb : List (List Int32) := [[112, 97, 105, 110, 116, 101, 114, 32, 99, 101, 108, 108, 32, 116, 104, 105, 110, 103, 32, 114, 101, 110, 116, 32, 116, 111, 112, 32, 119, 101, 116, 32, 119, 104, 111, 115, 101, 32, 109, 105, 110, 101, 32, 111, 119, 110, 101, 114, 32, 99, 111, 97, 116, 115, 32, 112, 117, 114, 115, 101, 32, 104, 111, 117, 114, 32, 114, 97, 105, 110, 32, 115, 116, 114, 101, 101, 116, 32, 99, 111, 97, 116, 32, 98, 97, 114, 101, 32, 115, 117, 105, 116, 32, 112, 97, 105, 110, 116, 32, 105, 102, 32, 97, 110, 100, 32, 111, 114, 32, 110, 111, 116, 32], [43, 45, 42, 47, 37, 60, 61, 62, 91, 93, 59], [115, 116, 114, 101, 101, 116], [116, 104, 105, 110, 103], [112, 97, 105, 110, 116, 101, 114], [99, 111, 97, 116], [98, 97, 114, 101], [114, 97, 105, 110], [115, 117, 105, 116], [112, 97, 105, 110, 116], [99, 101, 108, 108], [114, 101, 110, 116], [116, 111, 112], [119, 101, 116], [119, 104, 111, 115, 101], [109, 105, 110, 101], [111, 119, 110, 101, 114], [99, 111, 97, 116, 115], [112, 117, 114, 115, 101], [104, 111, 117, 114], [105, 102], [110, 111, 116], [97, 110, 100], [111, 114]]
def xAO (t : FieldType) (U : State) : Prop := (Cond.arrayOver (.array t)).before #[] U = true
theorem xAO_moved {t : FieldType} {u U : State} (hvm : u.vm.Alike U.vm) (h : xAO t u) : xAO t U := by
  have h' := h
  simp only [xAO, Cond.before, Cond.holds, Cond.value, beq_iff_eq] at h
  cases hc : u.vm.findClass (FieldType.array t).toString with
  | none => simp [hc] at h
  | some comp =>
    simp only [hc, Option.bind_some, Option.bind_eq_some_iff, Option.map_eq_some_iff] at h
    obtain ⟨c, h2, k, h3, hb⟩ := h
    obtain ⟨k', hk', he⟩ := hvm.2.2 _ _ h3
    have hi : (U.vm.classes.findIdx? fun (x : Class) => match x.kind with | .array component _ => component == comp | _ => false) = some c := by
      refine Eq.trans (va_idx_bare U.vm comp).symm ?_
      first | rw [hvm.bare_eq] | rw [← hvm.bare_eq]
      exact (va_idx_bare u.vm comp).trans h2
    have f1 : U.vm.findClass (FieldType.array t).toString = some comp := by rw [hvm.findClass]; exact hc
    simp only [xAO, Cond.before, Cond.holds, Cond.value, beq_iff_eq]
    rw [f1]
    simp only [Option.bind_some, Option.bind_eq_some_iff, Option.map_eq_some_iff]
    refine ⟨c, hi, k', hk', ?_⟩
    rw [he, hvm.findClass]
    exact hb
/-- what the tables say throughout, at a state -/
def xEv (E : xE) (B : Nat) (U : State) : Prop :=
  va_K (E.1, E.2.1) vwCl (xtys E) U ∧ (∀ w ∈ xNest, va_Nw w U) ∧ (va_AO "LatestCoat$State" U ∧ va_AO "LatestCoat$Rule" U ∧ va_AO "LatestCoat$World" U ∧ xAO .long U ∧ xAO .int U) ∧
  vk_S 24 xSl xSb E.2.2.2.1 E.2.2.2.2.1 (xA B) U U.heap ∧ (∀ (i : Nat) (q : String × Nat × String), xSt[i]? = some q → vk_R q.1 q.2.1 q.2.2 (E.2.2.2.1 i) U) ∧
  (va_Z "java/lang/String" "COMPACT_STRINGS" "Z" (.int 1) (xA B) U U.heap ∧ va_Z "jdk/internal/util/Preconditions" "SIOOBE_FORMATTER" "Ljava/util/function/BiFunction;" (xsv E 50) (xA B) U U.heap) ∧ (va_X E.2.2.2.2.2.1 E.2.2.2.2.2.2.1 E.2.2.2.2.2.2.2 U U.heap ∧ E.2.2.2.2.2.1 ≤ B) ∧ B < U.heap.size
/-- the frame's own facts -/
def xF (E : xE) (B : Nat) (y : MethodName) (cc : ByteArray) (maxL : Nat) (ret : Option FieldType) (p : Program) (s : State) (m : MethodId) (args : Array Value) (meth : Method) (c : Code) : Prop :=
  p.tables.exec = Jvm.exec ∧ c.code = cc ∧ meth.sig.returnType = ret ∧ c.maxLocals = maxL ∧ s.vm.findClass y.cls = some m.cls ∧ (∀ w ∈ xTW, w.before args s = true) ∧ meth.locks = false ∧ meth.name = y.name ∧ xEv E B s
def xQ (E : xE) (B : Nat) (r : Option Value × xH) : Array Value → State → Outcome → State → Prop := fun _ st o t => (o = .returned (r.1.map (xv E B)) ∧ xW E B r.2 t.heap) ∧ va_F (xA B) st t
abbrev xlv (E : xE) (B : Nat) (lv : List (Nat × Value)) : List (Nat × Value) := lv.map (fun q => (q.1, xv E B q.2))
/-- THE JUDGEMENT: from the place pc with these locals, this stack and this memory, the method comes to its end with r -/
def X (E : xE) (B d mc ms : Nat) (y : MethodName) (cc : ByteArray) (maxL : Nat) (ret : Option FieldType) (r : Option Value × xH) (pc : Nat) (lv : List (Nat × Value)) (st : List Value) (u w : Nat) (h : xH) : Prop :=
  ∀ (p : Program) (l : Launch) (e : Env) (s : State) (m : MethodId) (args : Array Value) (below : List Frame) (meth : Method) (c : Code) (H : Heap) (locs : List Loc) (ls : Array Slot),
    xF E B y cc maxL ret p s m args meth c → xW E B h H → va_S (xA B) s.heap H locs → lv_has ls maxL (xlv E B lv) →
    W p l e (xR d mc ms) s m args below meth c H locs u w (MQ below (xQ E B r) args s mc ms (xA B)) (F0 m pc ls (st.map (xv E B)))
/-- A METHOD'S CONTRACT: from these arguments and this memory, to r -/
def MX (E : xE) (B d mc ms : Nat) (y : MethodName) (cc : ByteArray) (maxL : Nat) (ret : Option FieldType) (as : List Value) (h : xH) (r : Option Value × xH) : Prop :=
  ∀ l : Launch, Met l y (xws y cc maxL ret) (xR d mc ms) (va_Pc (as.map (xv E B)) (fun U => xEv E B U ∧ xW E B h U.heap)) (xQ E B r) mc ms (xA B)
theorem x_at {E : xE} {B n j i : Nat} {lv : List (Nat × Value)} {ls : Array Slot} {v : Value} (hl : lv_has ls n (xlv E B lv)) (hx : lv[j]? = some (i, v)) : ls[i]? = some (.val (xv E B v)) :=
  hl.2.2 (i, xv E B v) (List.mem_map.mpr ⟨(i, v), List.mem_of_getElem? hx, rfl⟩)
theorem x_flt1 (E : xE) (B i : Nat) (lv : List (Nat × Value)) : (xlv E B lv).filter (fun q => !(q.1 == i) && !(q.1 + 1 == i && q.2.category == 2)) = xlv E B (lv.filter (fun q => !(q.1 == i) && !(q.1 + 1 == i && q.2.category == 2))) := by
  unfold xlv
  rw [List.filter_map]
  congr 1
  apply List.filter_congr
  intro q _
  simp only [Function.comp, xv_cat]
theorem x_flt2 (E : xE) (B i : Nat) (lv : List (Nat × Value)) : (xlv E B lv).filter (fun q => !(q.1 == i) && (!(q.1 == i + 1) && !(q.1 + 1 == i && q.2.category == 2))) = xlv E B (lv.filter (fun q => !(q.1 == i) && (!(q.1 == i + 1) && !(q.1 + 1 == i && q.2.category == 2)))) := by
  unfold xlv
  rw [List.filter_map]
  congr 1
  apply List.filter_congr
  intro q _
  simp only [Function.comp, xv_cat]
-- arithmetic, by names
def xrem (x y : Int32) : Int32 := x - x / y * y
def xlrem (x y : Int64) : Int64 := x - x / y * y
def xshl (x y : Int32) : Int32 := x <<< (y &&& 31)
def xshr (x y : Int32) : Int32 := x >>> (y &&& 31)
def xushr (x y : Int32) : Int32 := (x.toUInt32 >>> (y.toUInt32 &&& Int32.toUInt32 31)).toInt32
def xlshl (x : Int64) (y : Int32) : Int64 := x <<< (y.toInt64 &&& 63)
def xlushr (x : Int64) (y : Int32) : Int64 := (x.toUInt64 >>> (y.toInt64.toUInt64 &&& Int64.toUInt64 63)).toInt64
def xi2c (x : Int32) : Int32 := (x.toUInt32 % 65536).toInt32
def xi2b (x : Int32) : Int32 := x.toInt8.toInt32
section XR
variable {E : xE} {B d mc ms : Nat} {y : MethodName} {cc : ByteArray} {maxL : Nat} {ret : Option FieldType} {r : Option Value × xH} {pc : Nat} {lv lv' : List (Nat × Value)} {st : List Value} {u w : Nat} {h : xH}
theorem X_iconst {n : Int} {v : Int32} (hd : decode cc pc = .ok (.iconst n, 1)) (hv : Int32.ofInt n = v) (kk : X E B d mc ms y cc maxL ret r (pc + 1) lv (.int v :: st) u w h) : X E B d mc ms y cc maxL ret r pc lv st u w h := fun p l e s m args below meth c H locs ls F hW hS hl => lv_iconst F.1 F.2.1 hd hv (kk p l e s m args below meth c H locs ls F hW hS hl)
theorem X_bipush {n : Int} {v : Int32} (hd : decode cc pc = .ok (.bipush n, 2)) (hv : (Int8.ofInt n).toInt32 = v) (kk : X E B d mc ms y cc maxL ret r (pc + 2) lv (.int v :: st) u w h) : X E B d mc ms y cc maxL ret r pc lv st u w h := fun p l e s m args below meth c H locs ls F hW hS hl => lv_bipush F.1 F.2.1 hd hv (kk p l e s m args below meth c H locs ls F hW hS hl)
theorem X_sipush {n : Int} {v : Int32} (hd : decode cc pc = .ok (.sipush n, 3)) (hv : (Int16.ofInt n).toInt32 = v) (kk : X E B d mc ms y cc maxL ret r (pc + 3) lv (.int v :: st) u w h) : X E B d mc ms y cc maxL ret r pc lv st u w h := fun p l e s m args below meth c H locs ls F hW hS hl => lv_sipush F.1 F.2.1 hd hv (kk p l e s m args below meth c H locs ls F hW hS hl)
theorem X_lconst {n : Fin 2} {v : Int64} (hd : decode cc pc = .ok (.lconst n, 1)) (hv : Int64.ofNat (n : Nat) = v) (kk : X E B d mc ms y cc maxL ret r (pc + 1) lv (.long v :: st) u w h) : X E B d mc ms y cc maxL ret r pc lv st u w h := fun p l e s m args below meth c H locs ls F hW hS hl => lv_lconst F.1 F.2.1 hd hv (kk p l e s m args below meth c H locs ls F hW hS hl)
theorem X_null  (hd : decode cc pc = .ok (.aconst_null, 1))  (kk : X E B d mc ms y cc maxL ret r (pc + 1) lv (.ref 0 :: st) u w h) : X E B d mc ms y cc maxL ret r pc lv st u w h := fun p l e s m args below meth c H locs ls F hW hS hl => lv_null F.1 F.2.1 hd  (kk p l e s m args below meth c H locs ls F hW hS hl)
theorem X_iload_n {k : Fin 4} {i : Nat} {x : Int32} (j : Nat) (hd : decode cc pc = .ok (.iload_n k, 1)) (hi : (k : Nat) = i) (hx : lv[j]? = some (i, .int x)) (kk : X E B d mc ms y cc maxL ret r (pc + 1) lv (.int x :: st) u w h) : X E B d mc ms y cc maxL ret r pc lv st u w h := fun p l e s m args below meth c H locs ls F hW hS hl => lv_iload_n F.1 F.2.1 hd hi (x_at hl hx) (kk p l e s m args below meth c H locs ls F hW hS hl)
theorem X_iload {i : Nat} {x : Int32} (j : Nat) (hd : decode cc pc = .ok (.iload i, 2)) (hx : lv[j]? = some (i, .int x)) (kk : X E B d mc ms y cc maxL ret r (pc + 2) lv (.int x :: st) u w h) : X E B d mc ms y cc maxL ret r pc lv st u w h := fun p l e s m args below meth c H locs ls F hW hS hl => lv_iload F.1 F.2.1 hd (x_at hl hx) (kk p l e s m args below meth c H locs ls F hW hS hl)
theorem X_lload_n {k : Fin 4} {i : Nat} {x : Int64} (j : Nat) (hd : decode cc pc = .ok (.lload_n k, 1)) (hi : (k : Nat) = i) (hx : lv[j]? = some (i, .long x)) (kk : X E B d mc ms y cc maxL ret r (pc + 1) lv (.long x :: st) u w h) : X E B d mc ms y cc maxL ret r pc lv st u w h := fun p l e s m args below meth c H locs ls F hW hS hl => lv_lload_n F.1 F.2.1 hd hi (x_at hl hx) (kk p l e s m args below meth c H locs ls F hW hS hl)
theorem X_lload {i : Nat} {x : Int64} (j : Nat) (hd : decode cc pc = .ok (.lload i, 2)) (hx : lv[j]? = some (i, .long x)) (kk : X E B d mc ms y cc maxL ret r (pc + 2) lv (.long x :: st) u w h) : X E B d mc ms y cc maxL ret r pc lv st u w h := fun p l e s m args below meth c H locs ls F hW hS hl => lv_lload F.1 F.2.1 hd (x_at hl hx) (kk p l e s m args below meth c H locs ls F hW hS hl)
theorem X_aload_n {k : Fin 4} {i : Nat} {v : Value} (j : Nat) (hd : decode cc pc = .ok (.aload_n k, 1)) (hi : (k : Nat) = i) (hx : lv[j]? = some (i, v)) (hr : xisR v = true) (kk : X E B d mc ms y cc maxL ret r (pc + 1) lv (v :: st) u w h) : X E B d mc ms y cc maxL ret r pc lv st u w h := fun p l e s m args below meth c H locs ls F hW hS hl => by
  have q := x_at hl hx
  have K := (kk p l e s m args below meth c H locs ls F hW hS hl)
  rw [List.map_cons] at K
  rcases xv_or E B hr with z | ⟨a, z⟩
  · rw [z] at q K
    exact lv_aload_nN F.1 F.2.1 hd hi q K
  · rw [z] at q K
    exact lv_aload_n F.1 F.2.1 hd hi q K
theorem X_aload  {i : Nat} {v : Value} (j : Nat) (hd : decode cc pc = .ok (.aload i, 2))  (hx : lv[j]? = some (i, v)) (hr : xisR v = true) (kk : X E B d mc ms y cc maxL ret r (pc + 2) lv (v :: st) u w h) : X E B d mc ms y cc maxL ret r pc lv st u w h := fun p l e s m args below meth c H locs ls F hW hS hl => by
  have q := x_at hl hx
  have K := (kk p l e s m args below meth c H locs ls F hW hS hl)
  rw [List.map_cons] at K
  rcases xv_or E B hr with z | ⟨a, z⟩
  · rw [z] at q K
    exact lv_aloadN F.1 F.2.1 hd q K
  · rw [z] at q K
    exact lv_aload F.1 F.2.1 hd q K
theorem X_istore_n {k : Fin 4} {i : Nat} {x : Int32} (hd : decode cc pc = .ok (.istore_n k, 1)) (hi : (k : Nat) = i) (hn : i < maxL) (hv : (i, Value.int x) :: lv.filter (fun q => !(q.1 == i) && !(q.1 + 1 == i && q.2.category == 2)) = lv') (kk : X E B d mc ms y cc maxL ret r (pc + 1) lv' st u w h) : X E B d mc ms y cc maxL ret r pc lv (.int x :: st) u w h := fun p l e s m args below meth c H locs ls F hW hS hl => lv_istore_n F.1 F.2.1 hd hi hl hn (by rw [x_flt1, ← hv]; rfl) (fun ls2 hl2 => kk p l e s m args below meth c H locs ls2 F hW hS hl2)
theorem X_lstore_n {k : Fin 4} {i : Nat} {x : Int64} (hd : decode cc pc = .ok (.lstore_n k, 1)) (hi : (k : Nat) = i) (hn : i + 1 < maxL) (hv : (i, Value.long x) :: lv.filter (fun q => !(q.1 == i) && (!(q.1 == i + 1) && !(q.1 + 1 == i && q.2.category == 2))) = lv') (kk : X E B d mc ms y cc maxL ret r (pc + 1) lv' st u w h) : X E B d mc ms y cc maxL ret r pc lv (.long x :: st) u w h := fun p l e s m args below meth c H locs ls F hW hS hl => lv_lstore_n F.1 F.2.1 hd hi hl hn (by rw [x_flt2, ← hv]; rfl) (fun ls2 hl2 => kk p l e s m args below meth c H locs ls2 F hW hS hl2)
theorem X_istore  {i : Nat} {x : Int32} (hd : decode cc pc = .ok (.istore i, 2))  (hn : i < maxL) (hv : (i, Value.int x) :: lv.filter (fun q => !(q.1 == i) && !(q.1 + 1 == i && q.2.category == 2)) = lv') (kk : X E B d mc ms y cc maxL ret r (pc + 2) lv' st u w h) : X E B d mc ms y cc maxL ret r pc lv (.int x :: st) u w h := fun p l e s m args below meth c H locs ls F hW hS hl => lv_istore F.1 F.2.1 hd hl hn (by rw [x_flt1, ← hv]; rfl) (fun ls2 hl2 => kk p l e s m args below meth c H locs ls2 F hW hS hl2)
theorem X_lstore  {i : Nat} {x : Int64} (hd : decode cc pc = .ok (.lstore i, 2))  (hn : i + 1 < maxL) (hv : (i, Value.long x) :: lv.filter (fun q => !(q.1 == i) && (!(q.1 == i + 1) && !(q.1 + 1 == i && q.2.category == 2))) = lv') (kk : X E B d mc ms y cc maxL ret r (pc + 2) lv' st u w h) : X E B d mc ms y cc maxL ret r pc lv (.long x :: st) u w h := fun p l e s m args below meth c H locs ls F hW hS hl => lv_lstore F.1 F.2.1 hd hl hn (by rw [x_flt2, ← hv]; rfl) (fun ls2 hl2 => kk p l e s m args below meth c H locs ls2 F hW hS hl2)
theorem X_astore_n {k : Fin 4} {i : Nat} {v : Value} (hd : decode cc pc = .ok (.astore_n k, 1)) (hi : (k : Nat) = i) (hn : i < maxL) (hr : xisR v = true) (hv : (i, v) :: lv.filter (fun q => !(q.1 == i) && !(q.1 + 1 == i && q.2.category == 2)) = lv') (kk : X E B d mc ms y cc maxL ret r (pc + 1) lv' st u w h) : X E B d mc ms y cc maxL ret r pc lv (v :: st) u w h := fun p l e s m args below meth c H locs ls F hW hS hl => by
  have q : ∀ ls2, lv_has ls2 maxL (xlv E B lv') → W p l e (xR d mc ms) s m args below meth c H locs u w (MQ below (xQ E B r) args s mc ms (xA B)) (F0 m (pc + 1) ls2 (st.map (xv E B))) := fun ls2 hl2 => kk p l e s m args below meth c H locs ls2 F hW hS hl2
  rw [List.map_cons]
  subst hv
  rcases xv_or E B hr with z | ⟨a, z⟩
  · rw [z]
    exact lv_astore_nN F.1 F.2.1 hd hi hl hn (by rw [x_flt1, ← z]; rfl) q
  · rw [z]
    exact lv_astore_n F.1 F.2.1 hd hi hl hn (by rw [x_flt1, ← z]; rfl) q
theorem X_astore  {i : Nat} {v : Value} (hd : decode cc pc = .ok (.astore i, 2))  (hn : i < maxL) (hr : xisR v = true) (hv : (i, v) :: lv.filter (fun q => !(q.1 == i) && !(q.1 + 1 == i && q.2.category == 2)) = lv') (kk : X E B d mc ms y cc maxL ret r (pc + 2) lv' st u w h) : X E B d mc ms y cc maxL ret r pc lv (v :: st) u w h := fun p l e s m args below meth c H locs ls F hW hS hl => by
  have q : ∀ ls2, lv_has ls2 maxL (xlv E B lv') → W p l e (xR d mc ms) s m args below meth c H locs u w (MQ below (xQ E B r) args s mc ms (xA B)) (F0 m (pc + 2) ls2 (st.map (xv E B))) := fun ls2 hl2 => kk p l e s m args below meth c H locs ls2 F hW hS hl2
  rw [List.map_cons]
  subst hv
  rcases xv_or E B hr with z | ⟨a, z⟩
  · rw [z]
    exact lv_astoreN F.1 F.2.1 hd hl hn (by rw [x_flt1, ← z]; rfl) q
  · rw [z]
    exact lv_astore F.1 F.2.1 hd hl hn (by rw [x_flt1, ← z]; rfl) q
theorem X_iinc {i : Nat} {n : Int} {x v : Int32} (j : Nat) (hd : decode cc pc = .ok (.iinc i n, 3)) (hx : lv[j]? = some (i, .int x)) (he : x + Int32.ofInt n = v) (hn : i < maxL) (hv : (i, Value.int v) :: lv.filter (fun q => !(q.1 == i) && !(q.1 + 1 == i && q.2.category == 2)) = lv') (kk : X E B d mc ms y cc maxL ret r (pc + 3) lv' st u w h) : X E B d mc ms y cc maxL ret r pc lv st u w h := fun p l e s m args below meth c H locs ls F hW hS hl => lv_iinc F.1 F.2.1 hd hl (k := j) (x := x) (by unfold xlv; rw [List.getElem?_map, hx]; rfl) he hn (by rw [x_flt1, ← hv]; rfl) (fun ls2 hl2 => kk p l e s m args below meth c H locs ls2 F hW hS hl2)
theorem X_iadd {x y2 : Int32} (hd : decode cc pc = .ok (.iadd, 1))  (kk : X E B d mc ms y cc maxL ret r (pc + 1) lv (.int (x + y2) :: st) u w h) : X E B d mc ms y cc maxL ret r pc lv (.int y2 :: .int x :: st) u w h := fun p l e s m args below meth c H locs ls F hW hS hl => lv_iadd F.1 F.2.1 hd  (kk p l e s m args below meth c H locs ls F hW hS hl)
theorem X_isub {x y2 : Int32} (hd : decode cc pc = .ok (.isub, 1))  (kk : X E B d mc ms y cc maxL ret r (pc + 1) lv (.int (x - y2) :: st) u w h) : X E B d mc ms y cc maxL ret r pc lv (.int y2 :: .int x :: st) u w h := fun p l e s m args below meth c H locs ls F hW hS hl => lv_isub F.1 F.2.1 hd  (kk p l e s m args below meth c H locs ls F hW hS hl)
theorem X_imul {x y2 : Int32} (hd : decode cc pc = .ok (.imul, 1))  (kk : X E B d mc ms y cc maxL ret r (pc + 1) lv (.int (x * y2) :: st) u w h) : X E B d mc ms y cc maxL ret r pc lv (.int y2 :: .int x :: st) u w h := fun p l e s m args below meth c H locs ls F hW hS hl => lv_imul F.1 F.2.1 hd  (kk p l e s m args below meth c H locs ls F hW hS hl)
theorem X_iand {x y2 : Int32} (hd : decode cc pc = .ok (.iand, 1))  (kk : X E B d mc ms y cc maxL ret r (pc + 1) lv (.int (x &&& y2) :: st) u w h) : X E B d mc ms y cc maxL ret r pc lv (.int y2 :: .int x :: st) u w h := fun p l e s m args below meth c H locs ls F hW hS hl => lv_iand F.1 F.2.1 hd  (kk p l e s m args below meth c H locs ls F hW hS hl)
theorem X_ior {x y2 : Int32} (hd : decode cc pc = .ok (.ior, 1))  (kk : X E B d mc ms y cc maxL ret r (pc + 1) lv (.int (x ||| y2) :: st) u w h) : X E B d mc ms y cc maxL ret r pc lv (.int y2 :: .int x :: st) u w h := fun p l e s m args below meth c H locs ls F hW hS hl => lv_ior F.1 F.2.1 hd  (kk p l e s m args below meth c H locs ls F hW hS hl)
theorem X_ishl {x y2 : Int32} (hd : decode cc pc = .ok (.ishl, 1))  (kk : X E B d mc ms y cc maxL ret r (pc + 1) lv (.int (xshl x y2) :: st) u w h) : X E B d mc ms y cc maxL ret r pc lv (.int y2 :: .int x :: st) u w h := fun p l e s m args below meth c H locs ls F hW hS hl => lv_ishl F.1 F.2.1 hd  (kk p l e s m args below meth c H locs ls F hW hS hl)
theorem X_ishr {x y2 : Int32} (hd : decode cc pc = .ok (.ishr, 1))  (kk : X E B d mc ms y cc maxL ret r (pc + 1) lv (.int (xshr x y2) :: st) u w h) : X E B d mc ms y cc maxL ret r pc lv (.int y2 :: .int x :: st) u w h := fun p l e s m args below meth c H locs ls F hW hS hl => lv_ishr F.1 F.2.1 hd  (kk p l e s m args below meth c H locs ls F hW hS hl)
theorem X_idiv {x y2 : Int32} (hd : decode cc pc = .ok (.idiv, 1)) (hz : ¬ y2 = 0) (kk : X E B d mc ms y cc maxL ret r (pc + 1) lv (.int (x / y2) :: st) u w h) : X E B d mc ms y cc maxL ret r pc lv (.int y2 :: .int x :: st) u w h := fun p l e s m args below meth c H locs ls F hW hS hl => lv_idiv F.1 F.2.1 hd hz (kk p l e s m args below meth c H locs ls F hW hS hl)
theorem X_irem {x y2 : Int32} (hd : decode cc pc = .ok (.irem, 1)) (hz : ¬ y2 = 0) (kk : X E B d mc ms y cc maxL ret r (pc + 1) lv (.int (xrem x y2) :: st) u w h) : X E B d mc ms y cc maxL ret r pc lv (.int y2 :: .int x :: st) u w h := fun p l e s m args below meth c H locs ls F hW hS hl => lv_irem F.1 F.2.1 hd hz (kk p l e s m args below meth c H locs ls F hW hS hl)
theorem X_iushr {x y2 : Int32} (hd : decode cc pc = .ok (.iushr, 1))  (kk : X E B d mc ms y cc maxL ret r (pc + 1) lv (.int (xushr x y2) :: st) u w h) : X E B d mc ms y cc maxL ret r pc lv (.int y2 :: .int x :: st) u w h := fun p l e s m args below meth c H locs ls F hW hS hl => lv_iushr F.1 F.2.1 hd rfl (kk p l e s m args below meth c H locs ls F hW hS hl)
theorem X_ladd {x y2 : Int64} (hd : decode cc pc = .ok (.ladd, 1))  (kk : X E B d mc ms y cc maxL ret r (pc + 1) lv (.long (x + y2) :: st) u w h) : X E B d mc ms y cc maxL ret r pc lv (.long y2 :: .long x :: st) u w h := fun p l e s m args below meth c H locs ls F hW hS hl => lv_ladd F.1 F.2.1 hd  (kk p l e s m args below meth c H locs ls F hW hS hl)
theorem X_lsub {x y2 : Int64} (hd : decode cc pc = .ok (.lsub, 1))  (kk : X E B d mc ms y cc maxL ret r (pc + 1) lv (.long (x - y2) :: st) u w h) : X E B d mc ms y cc maxL ret r pc lv (.long y2 :: .long x :: st) u w h := fun p l e s m args below meth c H locs ls F hW hS hl => lv_lsub F.1 F.2.1 hd  (kk p l e s m args below meth c H locs ls F hW hS hl)
theorem X_lmul {x y2 : Int64} (hd : decode cc pc = .ok (.lmul, 1))  (kk : X E B d mc ms y cc maxL ret r (pc + 1) lv (.long (x * y2) :: st) u w h) : X E B d mc ms y cc maxL ret r pc lv (.long y2 :: .long x :: st) u w h := fun p l e s m args below meth c H locs ls F hW hS hl => lv_lmul F.1 F.2.1 hd  (kk p l e s m args below meth c H locs ls F hW hS hl)
theorem X_land {x y2 : Int64} (hd : decode cc pc = .ok (.land, 1))  (kk : X E B d mc ms y cc maxL ret r (pc + 1) lv (.long (x &&& y2) :: st) u w h) : X E B d mc ms y cc maxL ret r pc lv (.long y2 :: .long x :: st) u w h := fun p l e s m args below meth c H locs ls F hW hS hl => lv_land F.1 F.2.1 hd  (kk p l e s m args below meth c H locs ls F hW hS hl)
theorem X_lor {x y2 : Int64} (hd : decode cc pc = .ok (.lor, 1))  (kk : X E B d mc ms y cc maxL ret r (pc + 1) lv (.long (x ||| y2) :: st) u w h) : X E B d mc ms y cc maxL ret r pc lv (.long y2 :: .long x :: st) u w h := fun p l e s m args below meth c H locs ls F hW hS hl => lv_lor F.1 F.2.1 hd  (kk p l e s m args below meth c H locs ls F hW hS hl)
theorem X_ldiv {x y2 : Int64} (hd : decode cc pc = .ok (.ldiv, 1)) (hz : ¬ y2 = 0) (kk : X E B d mc ms y cc maxL ret r (pc + 1) lv (.long (x / y2) :: st) u w h) : X E B d mc ms y cc maxL ret r pc lv (.long y2 :: .long x :: st) u w h := fun p l e s m args below meth c H locs ls F hW hS hl => lv_ldiv F.1 F.2.1 hd hz (kk p l e s m args below meth c H locs ls F hW hS hl)
theorem X_lrem {x y2 : Int64} (hd : decode cc pc = .ok (.lrem, 1)) (hz : ¬ y2 = 0) (kk : X E B d mc ms y cc maxL ret r (pc + 1) lv (.long (xlrem x y2) :: st) u w h) : X E B d mc ms y cc maxL ret r pc lv (.long y2 :: .long x :: st) u w h := fun p l e s m args below meth c H locs ls F hW hS hl => lv_lrem F.1 F.2.1 hd hz (kk p l e s m args below meth c H locs ls F hW hS hl)
theorem X_lushr {x : Int64} {y2 : Int32} (hd : decode cc pc = .ok (.lushr, 1))  (kk : X E B d mc ms y cc maxL ret r (pc + 1) lv (.long (xlushr x y2) :: st) u w h) : X E B d mc ms y cc maxL ret r pc lv (.int y2 :: .long x :: st) u w h := fun p l e s m args below meth c H locs ls F hW hS hl => lv_lushr F.1 F.2.1 hd rfl (kk p l e s m args below meth c H locs ls F hW hS hl)
theorem X_lshl {x : Int64} {y2 : Int32} (hd : decode cc pc = .ok (.lshl, 1))  (kk : X E B d mc ms y cc maxL ret r (pc + 1) lv (.long (xlshl x y2) :: st) u w h) : X E B d mc ms y cc maxL ret r pc lv (.int y2 :: .long x :: st) u w h := fun p l e s m args below meth c H locs ls F hW hS hl => lv_lshl F.1 F.2.1 hd rfl (kk p l e s m args below meth c H locs ls F hW hS hl)
theorem X_i2l {x : Int32} (hd : decode cc pc = .ok (.i2l, 1))  (kk : X E B d mc ms y cc maxL ret r (pc + 1) lv (.long x.toInt64 :: st) u w h) : X E B d mc ms y cc maxL ret r pc lv (.int x :: st) u w h := fun p l e s m args below meth c H locs ls F hW hS hl => lv_i2l F.1 F.2.1 hd rfl (kk p l e s m args below meth c H locs ls F hW hS hl)
theorem X_l2i {x : Int64} (hd : decode cc pc = .ok (.l2i, 1))  (kk : X E B d mc ms y cc maxL ret r (pc + 1) lv (.int x.toInt32 :: st) u w h) : X E B d mc ms y cc maxL ret r pc lv (.long x :: st) u w h := fun p l e s m args below meth c H locs ls F hW hS hl => lv_l2i F.1 F.2.1 hd rfl (kk p l e s m args below meth c H locs ls F hW hS hl)
theorem X_i2b {x : Int32} (hd : decode cc pc = .ok (.i2b, 1))  (kk : X E B d mc ms y cc maxL ret r (pc + 1) lv (.int (xi2b x) :: st) u w h) : X E B d mc ms y cc maxL ret r pc lv (.int x :: st) u w h := fun p l e s m args below meth c H locs ls F hW hS hl => lv_i2b F.1 F.2.1 hd rfl (kk p l e s m args below meth c H locs ls F hW hS hl)
theorem X_i2c {x : Int32} (hd : decode cc pc = .ok (.i2c, 1))  (kk : X E B d mc ms y cc maxL ret r (pc + 1) lv (.int (xi2c x) :: st) u w h) : X E B d mc ms y cc maxL ret r pc lv (.int x :: st) u w h := fun p l e s m args below meth c H locs ls F hW hS hl => lv_i2c F.1 F.2.1 hd rfl (kk p l e s m args below meth c H locs ls F hW hS hl)
theorem X_lcmp {x y2 : Int64} (hd : decode cc pc = .ok (.lcmp, 1))  (kk : X E B d mc ms y cc maxL ret r (pc + 1) lv (.int (lg_cmp x y2) :: st) u w h) : X E B d mc ms y cc maxL ret r pc lv (.long y2 :: .long x :: st) u w h := fun p l e s m args below meth c H locs ls F hW hS hl => W.lcmp F.1 F.2.1 hd  (kk p l e s m args below meth c H locs ls F hW hS hl)
theorem X_dup {v : Value} (hd : decode cc pc = .ok (.dup, 1)) (hc : v.category = 1) (kk : X E B d mc ms y cc maxL ret r (pc + 1) lv (v :: v :: st) u w h) : X E B d mc ms y cc maxL ret r pc lv (v :: st) u w h := fun p l e s m args below meth c H locs ls F hW hS hl => lv_dup F.1 F.2.1 hd ((xv_cat E B v).trans hc) (kk p l e s m args below meth c H locs ls F hW hS hl)
theorem X_pop {v : Value} (hd : decode cc pc = .ok (.pop, 1)) (hc : v.category = 1) (kk : X E B d mc ms y cc maxL ret r (pc + 1) lv st u w h) : X E B d mc ms y cc maxL ret r pc lv (v :: st) u w h := fun p l e s m args below meth c H locs ls F hW hS hl => lv_pop F.1 F.2.1 hd ((xv_cat E B v).trans hc) (kk p l e s m args below meth c H locs ls F hW hS hl)
theorem X_dup2 {v v2 : Value} (hd : decode cc pc = .ok (.dup2, 1)) (hc : v.category = 1) (hc2 : v2.category = 1) (kk : X E B d mc ms y cc maxL ret r (pc + 1) lv (v :: v2 :: v :: v2 :: st) u w h) : X E B d mc ms y cc maxL ret r pc lv (v :: v2 :: st) u w h := fun p l e s m args below meth c H locs ls F hW hS hl => lv_dup2_11 F.1 F.2.1 hd ((xv_cat E B v).trans hc) ((xv_cat E B v2).trans hc2) (kk p l e s m args below meth c H locs ls F hW hS hl)
theorem X_if_eq {x : Int32} {off : Int} {tgt : Nat} (hd : decode cc pc = .ok (.ifCond .eq off, 3)) (ht : (pc : Int) + off = (tgt : Int)) (k1 : x = 0 → X E B d mc ms y cc maxL ret r tgt lv st u w h) (k2 : ¬ x = 0 → X E B d mc ms y cc maxL ret r (pc + 3) lv st u w h) : X E B d mc ms y cc maxL ret r pc lv (.int x :: st) u w h := fun p l e s m args below meth c H locs ls F hW hS hl => lv_if_eq F.1 F.2.1 hd ht (fun z => k1 z p l e s m args below meth c H locs ls F hW hS hl) (fun z => k2 z p l e s m args below meth c H locs ls F hW hS hl)
theorem X_icmp_eq {x y2 : Int32} {off : Int} {tgt : Nat} (hd : decode cc pc = .ok (.if_icmp .eq off, 3)) (ht : (pc : Int) + off = (tgt : Int)) (k1 : x = y2 → X E B d mc ms y cc maxL ret r tgt lv st u w h) (k2 : ¬ x = y2 → X E B d mc ms y cc maxL ret r (pc + 3) lv st u w h) : X E B d mc ms y cc maxL ret r pc lv (.int y2 :: .int x :: st) u w h := fun p l e s m args below meth c H locs ls F hW hS hl => lv_icmp_eq F.1 F.2.1 hd ht (fun z => k1 z p l e s m args below meth c H locs ls F hW hS hl) (fun z => k2 z p l e s m args below meth c H locs ls F hW hS hl)
theorem X_if_ne {x : Int32} {off : Int} {tgt : Nat} (hd : decode cc pc = .ok (.ifCond .ne off, 3)) (ht : (pc : Int) + off = (tgt : Int)) (k1 : x ≠ 0 → X E B d mc ms y cc maxL ret r tgt lv st u w h) (k2 : x = 0 → X E B d mc ms y cc maxL ret r (pc + 3) lv st u w h) : X E B d mc ms y cc maxL ret r pc lv (.int x :: st) u w h := fun p l e s m args below meth c H locs ls F hW hS hl => lv_if_ne F.1 F.2.1 hd ht (fun z => k1 z p l e s m args below meth c H locs ls F hW hS hl) (fun z => k2 z p l e s m args below meth c H locs ls F hW hS hl)
theorem X_icmp_ne {x y2 : Int32} {off : Int} {tgt : Nat} (hd : decode cc pc = .ok (.if_icmp .ne off, 3)) (ht : (pc : Int) + off = (tgt : Int)) (k1 : x ≠ y2 → X E B d mc ms y cc maxL ret r tgt lv st u w h) (k2 : x = y2 → X E B d mc ms y cc maxL ret r (pc + 3) lv st u w h) : X E B d mc ms y cc maxL ret r pc lv (.int y2 :: .int x :: st) u w h := fun p l e s m args below meth c H locs ls F hW hS hl => lv_icmp_ne F.1 F.2.1 hd ht (fun z => k1 z p l e s m args below meth c H locs ls F hW hS hl) (fun z => k2 z p l e s m args below meth c H locs ls F hW hS hl)
theorem X_if_lt {x : Int32} {off : Int} {tgt : Nat} (hd : decode cc pc = .ok (.ifCond .lt off, 3)) (ht : (pc : Int) + off = (tgt : Int)) (k1 : x < 0 → X E B d mc ms y cc maxL ret r tgt lv st u w h) (k2 : ¬ x < 0 → X E B d mc ms y cc maxL ret r (pc + 3) lv st u w h) : X E B d mc ms y cc maxL ret r pc lv (.int x :: st) u w h := fun p l e s m args below meth c H locs ls F hW hS hl => lv_if_lt F.1 F.2.1 hd ht (fun z => k1 z p l e s m args below meth c H locs ls F hW hS hl) (fun z => k2 z p l e s m args below meth c H locs ls F hW hS hl)
theorem X_icmp_lt {x y2 : Int32} {off : Int} {tgt : Nat} (hd : decode cc pc = .ok (.if_icmp .lt off, 3)) (ht : (pc : Int) + off = (tgt : Int)) (k1 : x < y2 → X E B d mc ms y cc maxL ret r tgt lv st u w h) (k2 : ¬ x < y2 → X E B d mc ms y cc maxL ret r (pc + 3) lv st u w h) : X E B d mc ms y cc maxL ret r pc lv (.int y2 :: .int x :: st) u w h := fun p l e s m args below meth c H locs ls F hW hS hl => lv_icmp_lt F.1 F.2.1 hd ht (fun z => k1 z p l e s m args below meth c H locs ls F hW hS hl) (fun z => k2 z p l e s m args below meth c H locs ls F hW hS hl)
theorem X_if_ge {x : Int32} {off : Int} {tgt : Nat} (hd : decode cc pc = .ok (.ifCond .ge off, 3)) (ht : (pc : Int) + off = (tgt : Int)) (k1 : 0 ≤ x → X E B d mc ms y cc maxL ret r tgt lv st u w h) (k2 : ¬ 0 ≤ x → X E B d mc ms y cc maxL ret r (pc + 3) lv st u w h) : X E B d mc ms y cc maxL ret r pc lv (.int x :: st) u w h := fun p l e s m args below meth c H locs ls F hW hS hl => lv_if_ge F.1 F.2.1 hd ht (fun z => k1 z p l e s m args below meth c H locs ls F hW hS hl) (fun z => k2 z p l e s m args below meth c H locs ls F hW hS hl)
theorem X_icmp_ge {x y2 : Int32} {off : Int} {tgt : Nat} (hd : decode cc pc = .ok (.if_icmp .ge off, 3)) (ht : (pc : Int) + off = (tgt : Int)) (k1 : y2 ≤ x → X E B d mc ms y cc maxL ret r tgt lv st u w h) (k2 : ¬ y2 ≤ x → X E B d mc ms y cc maxL ret r (pc + 3) lv st u w h) : X E B d mc ms y cc maxL ret r pc lv (.int y2 :: .int x :: st) u w h := fun p l e s m args below meth c H locs ls F hW hS hl => lv_icmp_ge F.1 F.2.1 hd ht (fun z => k1 z p l e s m args below meth c H locs ls F hW hS hl) (fun z => k2 z p l e s m args below meth c H locs ls F hW hS hl)
theorem X_if_gt {x : Int32} {off : Int} {tgt : Nat} (hd : decode cc pc = .ok (.ifCond .gt off, 3)) (ht : (pc : Int) + off = (tgt : Int)) (k1 : 0 < x → X E B d mc ms y cc maxL ret r tgt lv st u w h) (k2 : ¬ 0 < x → X E B d mc ms y cc maxL ret r (pc + 3) lv st u w h) : X E B d mc ms y cc maxL ret r pc lv (.int x :: st) u w h := fun p l e s m args below meth c H locs ls F hW hS hl => lv_if_gt F.1 F.2.1 hd ht (fun z => k1 z p l e s m args below meth c H locs ls F hW hS hl) (fun z => k2 z p l e s m args below meth c H locs ls F hW hS hl)
theorem X_icmp_gt {x y2 : Int32} {off : Int} {tgt : Nat} (hd : decode cc pc = .ok (.if_icmp .gt off, 3)) (ht : (pc : Int) + off = (tgt : Int)) (k1 : y2 < x → X E B d mc ms y cc maxL ret r tgt lv st u w h) (k2 : ¬ y2 < x → X E B d mc ms y cc maxL ret r (pc + 3) lv st u w h) : X E B d mc ms y cc maxL ret r pc lv (.int y2 :: .int x :: st) u w h := fun p l e s m args below meth c H locs ls F hW hS hl => lv_icmp_gt F.1 F.2.1 hd ht (fun z => k1 z p l e s m args below meth c H locs ls F hW hS hl) (fun z => k2 z p l e s m args below meth c H locs ls F hW hS hl)
theorem X_if_le {x : Int32} {off : Int} {tgt : Nat} (hd : decode cc pc = .ok (.ifCond .le off, 3)) (ht : (pc : Int) + off = (tgt : Int)) (k1 : x ≤ 0 → X E B d mc ms y cc maxL ret r tgt lv st u w h) (k2 : ¬ x ≤ 0 → X E B d mc ms y cc maxL ret r (pc + 3) lv st u w h) : X E B d mc ms y cc maxL ret r pc lv (.int x :: st) u w h := fun p l e s m args below meth c H locs ls F hW hS hl => lv_if_le F.1 F.2.1 hd ht (fun z => k1 z p l e s m args below meth c H locs ls F hW hS hl) (fun z => k2 z p l e s m args below meth c H locs ls F hW hS hl)
theorem X_icmp_le {x y2 : Int32} {off : Int} {tgt : Nat} (hd : decode cc pc = .ok (.if_icmp .le off, 3)) (ht : (pc : Int) + off = (tgt : Int)) (k1 : x ≤ y2 → X E B d mc ms y cc maxL ret r tgt lv st u w h) (k2 : ¬ x ≤ y2 → X E B d mc ms y cc maxL ret r (pc + 3) lv st u w h) : X E B d mc ms y cc maxL ret r pc lv (.int y2 :: .int x :: st) u w h := fun p l e s m args below meth c H locs ls F hW hS hl => lv_icmp_le F.1 F.2.1 hd ht (fun z => k1 z p l e s m args below meth c H locs ls F hW hS hl) (fun z => k2 z p l e s m args below meth c H locs ls F hW hS hl)
theorem X_goto {off : Int} {tgt : Nat} (hd : decode cc pc = .ok (.goto off, 3)) (ht : (pc : Int) + off = (tgt : Int)) (kk : X E B d mc ms y cc maxL ret r tgt lv st u w h) : X E B d mc ms y cc maxL ret r pc lv st u w h := fun p l e s m args below meth c H locs ls F hW hS hl => lv_goto F.1 F.2.1 hd ht (kk p l e s m args below meth c H locs ls F hW hS hl)
theorem X_ifnonnull {a : Nat} {off : Int} {tgt : Nat} (hd : decode cc pc = .ok (.ifnonnull off, 3)) (ht : (pc : Int) + off = (tgt : Int)) (k1 : a ≠ 0 → X E B d mc ms y cc maxL ret r tgt lv st u w h) (k2 : ¬ a ≠ 0 → X E B d mc ms y cc maxL ret r (pc + 3) lv st u w h) : X E B d mc ms y cc maxL ret r pc lv (.ref a :: st) u w h := fun p l e s m args below meth c H locs ls F hW hS hl => by
  rw [List.map_cons]
  show W p l e _ s m args below meth c H locs u w _ (F0 m pc ls (xrf B a :: _))
  by_cases z : a = 0
  · rw [z, xrf_0]
    exact lv_ifnonnullN F.1 F.2.1 hd (k2 (fun q => q z) p l e s m args below meth c H locs ls F hW hS hl)
  · rw [xrf_p B z]
    exact lv_ifnonnull F.1 F.2.1 hd ht (k1 z p l e s m args below meth c H locs ls F hW hS hl)
theorem X_tableIn {dflt lo hi : Int} {offs : Array Int} {len : Nat} {x : Int32} {off : Int} {tgt : Nat} (hd : decode cc pc = .ok (.tableswitch dflt lo hi offs, len)) (h1 : ¬ x.toInt < lo) (h2 : ¬ hi < x.toInt) (ho : offs[(x.toInt - lo).toNat]? = some off) (ht : (pc : Int) + off = (tgt : Int)) (kk : X E B d mc ms y cc maxL ret r tgt lv st u w h) : X E B d mc ms y cc maxL ret r pc lv (.int x :: st) u w h := fun p l e s m args below meth c H locs ls F hW hS hl => lv_tableIn F.1 F.2.1 hd h1 h2 ho ht (kk p l e s m args below meth c H locs ls F hW hS hl)
theorem X_tableOut {dflt lo hi : Int} {offs : Array Int} {len : Nat} {x : Int32} {tgt : Nat} (hd : decode cc pc = .ok (.tableswitch dflt lo hi offs, len)) (h1 : x.toInt < lo ∨ hi < x.toInt) (ht : (pc : Int) + dflt = (tgt : Int)) (kk : X E B d mc ms y cc maxL ret r tgt lv st u w h) : X E B d mc ms y cc maxL ret r pc lv (.int x :: st) u w h := fun p l e s m args below meth c H locs ls F hW hS hl => lv_tableOut F.1 F.2.1 hd h1 ht (kk p l e s m args below meth c H locs ls F hW hS hl)
theorem X_lookup {dflt : Int} {ps : Array (Int × Int)} {len : Nat} {x : Int32} {off : Int} {tgt : Nat} (hd : decode cc pc = .ok (.lookupswitch dflt ps, len)) (hp : (ps.toList.zip (ps.toList.drop 1)).all (fun (a, next) => a.1 < next.1) = true) (ho : Op.lookupswitch.offset ps.toList dflt x.toInt = off) (ht : (pc : Int) + off = (tgt : Int)) (kk : X E B d mc ms y cc maxL ret r tgt lv st u w h) : X E B d mc ms y cc maxL ret r pc lv (.int x :: st) u w h := fun p l e s m args below meth c H locs ls F hW hS hl => lv_lookup F.1 F.2.1 hd hp ho ht (kk p l e s m args below meth c H locs ls F hW hS hl)
theorem X_ldc {v : Int32} {idx : Nat} (hc : Cond.constant y.cls idx v ∈ xTW) (hd : decode cc pc = .ok (.ldc idx, 2)) (kk : X E B d mc ms y cc maxL ret r (pc + 2) lv (.int v :: st) u w h) : X E B d mc ms y cc maxL ret r pc lv st u w h := fun p l e s m args below meth c H locs ls F hW hS hl => lv_ldc F.1 F.2.1 F.2.2.2.2.1 (F.2.2.2.2.2.1 _ hc) hd (kk p l e s m args below meth c H locs ls F hW hS hl)
theorem X_ldc_w {v : Int32} {idx : Nat} (hc : Cond.constant y.cls idx v ∈ xTW) (hd : decode cc pc = .ok (.ldc_w idx, 3)) (kk : X E B d mc ms y cc maxL ret r (pc + 3) lv (.int v :: st) u w h) : X E B d mc ms y cc maxL ret r pc lv st u w h := fun p l e s m args below meth c H locs ls F hW hS hl => lv_ldcw F.1 F.2.1 F.2.2.2.2.1 (F.2.2.2.2.2.1 _ hc) hd (kk p l e s m args below meth c H locs ls F hW hS hl)
theorem X_ldc2 {v : Int64} {idx : Nat} (hc : Cond.constantLong y.cls idx v ∈ xTW) (hd : decode cc pc = .ok (.ldc2_w idx, 3)) (kk : X E B d mc ms y cc maxL ret r (pc + 3) lv (.long v :: st) u w h) : X E B d mc ms y cc maxL ret r pc lv st u w h := fun p l e s m args below meth c H locs ls F hW hS hl => lv_ldc2 F.1 F.2.1 F.2.2.2.2.1 (F.2.2.2.2.2.1 _ hc) hd (kk p l e s m args below meth c H locs ls F hW hS hl)
theorem X_lv (ks : List Nat) (hp : ks.filterMap (fun k => lv[k]?) = lv') (kk : X E B d mc ms y cc maxL ret r pc lv' st u w h) : X E B d mc ms y cc maxL ret r pc lv st u w h := fun p l e s m args below meth c H locs ls F hW hS hl => kk p l e s m args below meth c H locs ls F hW hS ⟨hl.1, hl.2.1, fun q hq => by
  obtain ⟨z, hz, rfl⟩ := List.mem_map.mp hq
  rw [← hp] at hz
  obtain ⟨k, -, hk⟩ := List.mem_filterMap.mp hz
  exact x_at hl hk⟩
theorem X_widen {u2 w2 : Nat} (h1 : u ≤ u2) (h2 : w ≤ w2) (kk : X E B d mc ms y cc maxL ret r pc lv st u2 w2 h) : X E B d mc ms y cc maxL ret r pc lv st u w h := fun p l e s m args below meth c H locs ls F hW hS hl => W.widen h1 h2 (kk p l e s m args below meth c H locs ls F hW hS hl)
theorem X_iret {v : Int32} (hd : decode cc pc = .ok (.ireturn, 1)) (hr : ret = some .int) : X E B d mc ms y cc maxL ret (some (.int v), h) pc lv [.int v] mc ms h := fun p l e s m args below meth c H locs ls F hW hS hl => W.iret F.1 F.2.1 (F.2.2.1.trans hr) (fun t ht _ => ⟨⟨rfl, by rw [ht]; exact hW⟩, hS.F ht⟩) hS.2.2 hd F.2.2.2.2.2.2.1
theorem X_zret {v : Int32} {ty : FieldType} (hd : decode cc pc = .ok (.ireturn, 1)) (hr : ret = some ty) (hn : narrow ty (.int v) = .int v) : X E B d mc ms y cc maxL ret (some (.int v), h) pc lv [.int v] mc ms h := fun p l e s m args below meth c H locs ls F hW hS hl => W.zret F.1 F.2.1 (F.2.2.1.trans hr) hn (fun t ht _ => ⟨⟨rfl, by rw [ht]; exact hW⟩, hS.F ht⟩) hS.2.2 hd F.2.2.2.2.2.2.1
theorem X_lret {v : Int64} (hd : decode cc pc = .ok (.lreturn, 1)) (hr : ret = some .long) : X E B d mc ms y cc maxL ret (some (.long v), h) pc lv [.long v] mc ms h := fun p l e s m args below meth c H locs ls F hW hS hl => W.lret F.1 F.2.1 (F.2.2.1.trans hr) (fun t ht _ => ⟨⟨rfl, by rw [ht]; exact hW⟩, hS.F ht⟩) hS.2.2 hd F.2.2.2.2.2.2.1
theorem X_aret {v : Value} {rt : FieldType} (hd : decode cc pc = .ok (.areturn, 1)) (hr : ret = some rt) (hrt : (∃ n, rt = .object n) ∨ ∃ t, rt = .array t) (hv : xisR v = true) : X E B d mc ms y cc maxL ret (some v, h) pc lv [v] mc ms h := fun p l e s m args below meth c H locs ls F hW hS hl => W.aret F.1 F.2.1 (F.2.2.1.trans hr) hrt (xv_or E B hv) (fun t ht _ => ⟨⟨rfl, by rw [ht]; exact hW⟩, hS.F ht⟩) hS.2.2 hd F.2.2.2.2.2.2.1
theorem X_vret (hd : decode cc pc = .ok (.return_, 1)) (hr : ret = none) : X E B d mc ms y cc maxL ret (none, h) pc lv [] mc ms h := fun p l e s m args below meth c H locs ls F hW hS hl => W.vret F.1 F.2.1 (F.2.2.1.trans hr) (fun t ht _ => ⟨⟨rfl, by rw [ht]; exact hW⟩, hS.F ht⟩) hS.2.2 hd F.2.2.2.2.2.2.1
end XR

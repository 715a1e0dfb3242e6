/-! The whole state: street, told, now, kept, logs, x, the rule in force; images; rules; tape. -/
abbrev lgT : Type := List (Nat × Nat × Int)
abbrev wT : Type := sT × aT × aT × List aT × lgT × Nat × Int
def wS (W : wT) : sT := W.1
def wT0 (W : wT) : aT := W.2.1
def wA (W : wT) : aT := W.2.2.1
def wK (W : wT) : List aT := W.2.2.2.1
def wL (W : wT) : lgT := W.2.2.2.2.1
def wX (W : wT) : Nat := W.2.2.2.2.2.1
def wF (W : wT) : Int := W.2.2.2.2.2.2
def okW (k nr : Nat) (W : wT) : Prop :=
  okS (wS W) ∧ (okA (wS W) (wT0 W) ∧ (∀ c, c < sCe (wS W) → ∀ x ∈ (wT0 W).1 c, x / 4 = 1) ∧ (wT0 W).2.2.1 = 0) ∧ (okA (wS W) (wA W) ∧ (wA W).2.2.1 ≤ k) ∧ ((wK W).length ≤ 20 ∧ ∀ B ∈ wK W, okA (wS W) B ∧ B.2.2.1 ≤ k) ∧ ((wL W).length ≤ 10 ∧ ∀ e ∈ wL W, e.1 ≤ 99 ∧ e.2.1 < sTh (wS W) ∧ -1 ≤ e.2.2 ∧ e.2.2 < sPa (wS W)) ∧ wX W < 2147483648 ∧ -1 ≤ wF W ∧ wF W < nr
theorem okW_mono {k k2 nr nr2 : Nat} {W : wT} (h : k ≤ k2) (h2 : nr ≤ nr2) (o : okW k nr W) : okW k2 nr2 W := by
  obtain ⟨o1, o2, o3, o4, o5, o6, o7, o8⟩ := o
  exact ⟨o1, o2, ⟨o3.1, Nat.le_trans o3.2 h⟩, ⟨o4.1, fun B hB => ⟨(o4.2 B hB).1, Nat.le_trans (o4.2 B hB).2 h⟩⟩, o5, o6, o7, by omega⟩
/-- the class's world at place w -/
def cW (P : Nat → Nat → Nat) (I : Nat → Nat → Int32) (L : Nat → Nat → Int64) (w : Nat) (W : wT) : Prop :=
  (cS I (P w 0) (wS W) ∧ cA I L (P w 0 + 8) (wS W) (wT0 W)) ∧ cA I L (w + 12) (wS W) (wA W) ∧ (I w 3 = nI (wK W).length ∧ ∀ j B, (wK W)[j]? = some B → cA I L (P (w + 15) j) (wS W) B) ∧ (I w 7 = nI (wL W).length ∧ ∀ j n t o, (wL W)[j]? = some (n, t, o) → I (w + 16) j = nI n ∧ I (w + 17) j = nI t ∧ I (w + 18) j = zI o) ∧ I w 8 = nI (wX W) ∧ I w 9 = zI (wF W)
/-- how long the reference's rows are -/
def lenR : Nat → Nat
  | 124 => 13
  | 125 => 5
  | 126 => 4
  | 127 => 4
  | 128 => 4
  | 129 => 5
  | 130 => 5
  | 131 => 16
  | 132 => 80
  | 133 => 80
  | 134 => 10
  | 135 => 10
  | 136 => 10
  | 137 => 16
  | 138 => 80
  | 139 => 4
  | 140 => 1
  | 162 => 3640
  | _ => 0
def rT0 (G : Nat → Nat → Int32) (S : sT) (T : aT) : Prop := (∀ c, c < sCe S → T.2.2.2.testBit (thOf S c) = false → G 137 c = nI (T.1 c).length ∧ ∀ i x, (T.1 c).reverse[i]? = some x → G 138 (5 * c + i) = nI (x % 4)) ∧ (∀ q, q < sPa S → G 139 q = nI (T.2.1 q)) ∧ G 140 0 = nI T.2.2.2
def rPa (f : Nat → Int32) (j : Nat) (S : sT) (B : aT) : Prop := rA (fun i => f (182 * j + (i - 8))) (fun q => f (182 * j + 2 + q)) (fun c => f (182 * j + 6 + c)) (fun i => f (182 * j + 22 + i)) (fun i => f (182 * j + 102 + i)) S B
def rW (G : Nat → Nat → Int32) (pm : Int32) (W : wT) : Prop :=
  rS (G 124) (G 125) (G 126) (G 127) (G 129) (G 130) (wS W) ∧ rA (G 124) (G 128) (G 131) (G 132) (G 133) (wS W) (wA W) ∧ rT0 G (wS W) (wT0 W) ∧ (pm = nI (wK W).length ∧ ∀ j B, (wK W)[j]? = some B → rPa (G 162) j (wS W) B) ∧ (G 124 10 = nI (wL W).length ∧ ∀ j n t o, (wL W)[j]? = some (n, t, o) → G 134 j = nI n ∧ G 135 j = nI t ∧ G 136 j = zI o) ∧ G 124 11 = nI (wX W) ∧ G 124 12 = zI (wF W)
theorem rA_congr {sc pu ma b w sc2 pu2 ma2 b2 w2 : Nat → Int32} {S : sT} {A : aT} (O : okS S) (hA : okA S A) (h1 : sc2 8 = sc 8) (h2 : sc2 9 = sc 9) (h3 : ∀ q, q < 4 → pu2 q = pu q) (h4 : ∀ c, c < 16 → ma2 c = ma c) (h5 : ∀ i, i < 80 → b2 i = b i) (h6 : ∀ i, i < 80 → w2 i = w i) (R : rA sc pu ma b w S A) : rA sc2 pu2 ma2 b2 w2 S A := by
  have o1 := O.1
  refine ⟨h1.trans R.1, h2.trans R.2.1, fun q hq => (h3 q (by omega)).trans (R.2.2.1 q hq), fun c hc => ⟨(h4 c (by omega)).trans (R.2.2.2 c hc).1, rowB_congr (hA.1 c hc).1.1 (fun i hi => ⟨h5 _ (by omega), h6 _ (by omega)⟩) (R.2.2.2 c hc).2⟩⟩
theorem rS_congr {sc fi re co rf rt sc2 fi2 re2 co2 rf2 rt2 : Nat → Int32} {S : sT} (O : okS S) (h1 : ∀ i, i < 8 → sc2 i = sc i) (h2 : ∀ t, t < 5 → fi2 t = fi t) (h3 : ∀ t, t < 4 → re2 t = re t) (h4 : ∀ q, q < 4 → co2 q = co q) (h5 : ∀ k, k < 5 → rf2 k = rf k) (h6 : ∀ k, k < 5 → rt2 k = rt k) (R : rS sc fi re co rf rt S) : rS sc2 fi2 re2 co2 rf2 rt2 S := by
  have o1 := O.1
  exact ⟨fun i hi => (h1 i hi).trans (R.1 i hi), fun t ht => (h2 t (by omega)).trans (R.2.1 t ht), fun t ht => (h3 t (by omega)).trans (R.2.2.1 t ht), fun q hq => (h4 q (by omega)).trans (R.2.2.2.1 q hq), fun k hk => ⟨(h5 k (by omega)).trans (R.2.2.2.2 k hk).1, (h6 k (by omega)).trans (R.2.2.2.2 k hk).2⟩⟩
theorem rT0_congr {G H : Nat → Nat → Int32} {S : sT} {T : aT} (O : okS S) (hT : okA S T) (h : ∀ r i, i < lenR r → H r i = G r i) (R : rT0 G S T) : rT0 H S T := by
  have o1 := O.1
  refine ⟨fun c hc hb => ⟨?_, fun i x hx => ?_⟩, fun q hq => ?_, ?_⟩
  · rw [h 137 c (show c < 16 by omega)]; exact (R.1 c hc hb).1
  · have hi := (List.getElem?_eq_some_iff.mp hx).1
    rw [List.length_reverse] at hi
    have := (hT.1 c hc).1.1
    rw [h 138 _ (show 5 * c + i < 80 by omega)]
    exact (R.1 c hc hb).2 i x hx
  · rw [h 139 q (show q < 4 by omega)]; exact R.2.1 q hq
  · rw [h 140 0 (show 0 < 1 by omega)]; exact R.2.2
theorem rPa_congr {f g : Nat → Int32} {j : Nat} {S : sT} {B : aT} (O : okS S) (hB : okA S B) (h : ∀ i, i < 182 → g (182 * j + i) = f (182 * j + i)) (R : rPa f j S B) : rPa g j S B := by
  refine rA_congr O hB (h _ (by omega)) (h _ (by omega)) (fun q hq => ?_) (fun c hc => ?_) (fun i hi => ?_) (fun i hi => ?_) R
  · rw [Nat.add_assoc]; exact h _ (by omega)
  · rw [Nat.add_assoc]; exact h _ (by omega)
  · rw [Nat.add_assoc]; exact h _ (by omega)
  · rw [Nat.add_assoc]; exact h _ (by omega)
theorem rW_congr {G H : Nat → Nat → Int32} {pm pm2 : Int32} {k nr : Nat} {W : wT} (o : okW k nr W) (h : ∀ r i, i < lenR r → H r i = G r i) (hp : pm2 = pm) (R : rW G pm W) : rW H pm2 W := by
  obtain ⟨o1, o2, o3, o4, o5, o6, o7, o8⟩ := o
  obtain ⟨r1, r2, r3, r4, r5, r6, r7⟩ := R
  refine ⟨rS_congr o1 (fun i hi => h 124 i (show i < 13 by omega)) (fun i hi => h 125 i hi) (fun i hi => h 126 i hi) (fun i hi => h 127 i hi) (fun i hi => h 129 i hi) (fun i hi => h 130 i hi) r1, rA_congr o1 o3.1 (h 124 8 (show 8 < 13 by decide)) (h 124 9 (show 9 < 13 by decide)) (fun i hi => h 128 i hi) (fun i hi => h 131 i hi) (fun i hi => h 132 i hi) (fun i hi => h 133 i hi) r2, rT0_congr o1 o2.1 h r3, ⟨hp.trans r4.1, fun j B hB => ?_⟩, ⟨?_, fun j n t p hj => ?_⟩, ?_, ?_⟩
  · have hj := (List.getElem?_eq_some_iff.mp hB).1
    have hl := o4.1
    exact rPa_congr o1 (o4.2 B (List.mem_of_getElem? hB)).1 (fun i hi => h 162 _ (show 182 * j + i < 3640 by omega)) (r4.2 j B hB)
  · rw [h 124 10 (show 10 < 13 by decide)]; exact r5.1
  · have hj2 := (List.getElem?_eq_some_iff.mp hj).1
    have hl := o5.1
    rw [h 134 j (show j < 10 by omega), h 135 j (show j < 10 by omega), h 136 j (show j < 10 by omega)]
    exact r5.2 j n t p hj
  · rw [h 124 11 (show 11 < 13 by decide)]; exact r6
  · rw [h 124 12 (show 12 < 13 by decide)]; exact r7
/-- where an image's rows lie -/
def offR : Nat → Nat
  | 124 => 0
  | 128 => 13
  | 131 => 17
  | 132 => 33
  | 133 => 113
  | 163 => 193
  | 125 => 194
  | 126 => 199
  | 127 => 203
  | 129 => 207
  | 130 => 212
  | 134 => 217
  | 135 => 227
  | 136 => 237
  | 137 => 247
  | 138 => 263
  | 139 => 343
  | 140 => 347
  | 162 => 348
  | _ => 0
theorem offR_len : ∀ r, r < 200 → offR r + lenR r ≤ 3988 := by decide +kernel
def imG (I : Nat → Nat → Int32) (k : Nat) : Nat → Nat → Int32 := fun r i => I 170 (4100 * k + offR r + i)
abbrev zT : Type := wT × (Nat → Option wT) × List ruT × List Int
def zW (Z : zT) : wT := Z.1
def zM (Z : zT) : Nat → Option wT := Z.2.1
def zR (Z : zT) : List ruT := Z.2.2.1
def zP (Z : zT) : List Int := Z.2.2.2
def okZ (k : Nat) (Z : zT) : Prop := okW k (zR Z).length (zW Z) ∧ (∀ i W, zM Z i = some W → okW k (zR Z).length W) ∧ ((zR Z).length ≤ 6 ∧ ∀ ru ∈ zR Z, okRu ru) ∧ (zP Z).length ≤ 400 ∧ ∀ x ∈ zP Z, -128 ≤ x ∧ x ≤ 127
theorem okZ_mono {k k2 : Nat} {Z : zT} (h : k ≤ k2) (o : okZ k Z) : okZ k2 Z := ⟨okW_mono h (Nat.le_refl _) o.1, fun i W hW => okW_mono h (Nat.le_refl _) (o.2.1 i W hW), o.2.2⟩
/-- a block of places apart from the images' worlds -/
def apt (n : Nat) (P : Nat → Nat → Nat) (s len : Nat) : Prop := 171 < s ∧ s + len ≤ n ∧ ∀ k, k < 4 → P 91 k ≠ 0 → s + len < P 91 k ∨ P 91 k + 78 < s
def plZ (n : Nat) (P : Nat → Nat → Nat) (s : Nat) : Prop := s = 13 ∨ apt n P s 10
def cM (n : Nat) (P : Nat → Nat → Nat) (I : Nat → Nat → Int32) (L : Nat → Nat → Int64) (i : Nat) : Option wT → Prop
  | none => P 91 i = 0
  | some W => (171 < P 91 i ∧ P 91 i + 78 ≤ n) ∧ cW P I L (P 91 i) W ∧ plZ n P (P (P 91 i) 0) ∧ ∀ j, j < 20 → P (P 91 i + 15) j = P 91 i + 19 + 3 * j
def CI (h : xH) (Z : zT) : Prop :=
  (cW h.2.2.1 h.2.2.2.1 h.2.2.2.2 12 (zW Z) ∧ plZ h.1 h.2.2.1 (h.2.2.1 12 0)) ∧ ((∀ j, j < 20 → ∃ i, i < 20 ∧ h.2.2.1 27 j = 31 + 3 * i) ∧ ∀ i j, i < 20 → j < 20 → h.2.2.1 27 i = h.2.2.1 27 j → i = j) ∧ ((∀ i, i < 4 → cM h.1 h.2.2.1 h.2.2.2.1 h.2.2.2.2 i (zM Z i)) ∧ ∀ i j, i < 4 → j < 4 → i ≠ j → h.2.2.1 91 i ≠ 0 → h.2.2.1 91 j ≠ 0 → h.2.2.1 91 i + 78 < h.2.2.1 91 j ∨ h.2.2.1 91 j + 78 < h.2.2.1 91 i) ∧ (h.2.2.2.1 1 5 = nI (zR Z).length ∧ ∀ r ru, (zR Z)[r]? = some ru → cR h.2.1 h.2.2.2.1 (h.2.2.1 11 r) ru ∧ apt h.1 h.2.2.1 (h.2.2.1 11 r) 3) ∧ h.2.2.2.1 1 1 = nI (zP Z).length ∧ ∀ i x, (zP Z)[i]? = some x → h.2.2.2.1 2 i = zI x
def rM (I : Nat → Nat → Int32) (i : Nat) : Option wT → Prop
  | none => I 171 i = nI 0
  | some W => I 171 i = nI 1 ∧ rW (imG I i) (I 170 (4100 * i + 193)) W
def RI (I : Nat → Nat → Int32) (Z : zT) : Prop :=
  rW I (I 123 51) (zW Z) ∧ (∀ i, i < 4 → rM I i (zM Z i)) ∧ (I 123 31 = nI (zR Z).length ∧ ∀ r ru, (zR Z)[r]? = some ru → rR I r ru) ∧ (I 123 27 = nI (zP Z).length ∧ ∀ i x, (zP Z)[i]? = some x → I 150 i = zI x) ∧ I 123 36 = nI 13 ∧ I 142 0 = nI 0
def Inv (k : Nat) (h : xH) : Prop := (GW h.2.1 h.2.2.1 ∧ Fr h) ∧ ∃ Z, okZ k Z ∧ CI h Z ∧ RI h.2.2.2.1 Z
section
variable {n : Nat} {K : Nat → Nat × Nat} {P : Nat → Nat → Nat} {I J : Nat → Nat → Int32} {L M : Nat → Nat → Int64} {Z : zT} {k : Nat}
theorem cW_congr {w : Nat} {W : wT} (hI : ∀ b, (P w 0 ≤ b ∧ b ≤ P w 0 + 10) ∨ b = w ∨ (w + 12 ≤ b ∧ b ≤ w + 14) ∨ (w + 16 ≤ b ∧ b ≤ w + 18) → J b = I b ∧ M b = L b) (hk : ∀ j B, (wK W)[j]? = some B → ∀ b, P (w + 15) j ≤ b → b ≤ P (w + 15) j + 2 → J b = I b ∧ M b = L b) (C : cW P I L w W) : cW P J M w W := by
  obtain ⟨⟨c1, c2⟩, c3, ⟨c4, c5⟩, ⟨c6, c7⟩, c8, c9⟩ := C
  have ew : J w = I w := (hI w (by omega)).1
  refine ⟨⟨cS_congr (fun b h1 h2 => (hI b (by omega)).1) c1, cA_congr (hI _ (by omega)).1 (hI _ (by omega)).1 (hI _ (by omega)).2 c2⟩, cA_congr (hI _ (by omega)).1 (hI _ (by omega)).1 (hI _ (by omega)).2 c3, ⟨by rw [ew]; exact c4, fun j B hB => cA_congr (hk j B hB _ (by omega) (by omega)).1 (hk j B hB _ (by omega) (by omega)).1 (hk j B hB _ (by omega) (by omega)).2 (c5 j B hB)⟩, ⟨by rw [ew]; exact c6, fun j a t o hj => ?_⟩, by rw [ew]; exact c8, by rw [ew]; exact c9⟩
  rw [(hI (w + 16) (by omega)).1, (hI (w + 17) (by omega)).1, (hI (w + 18) (by omega)).1]
  exact c7 j a t o hj
/-- what the class's part rests on -/
theorem CI_congr {kz : Nat} (ok : okZ kz Z) (hI : ∀ b, b < 3 ∨ (10 < b ∧ b < 92) ∨ 171 < b → J b = I b ∧ M b = L b) (C : CI (n, K, P, I, L) Z) : CI (n, K, P, J, M) Z := by
  obtain ⟨⟨c1, c2⟩, ⟨c3, c4⟩, ⟨c5, c6⟩, ⟨c7, c8⟩, c9, c10⟩ := C
  refine ⟨⟨cW_congr (fun b hb => hI b ?_) (fun j B hB b h1 h2 => hI b ?_) c1, c2⟩, ⟨c3, c4⟩, ⟨fun i hi => ?_, c6⟩, ⟨?_, fun r ru hr => ⟨cR_congr (fun b h1 h2 => (hI b ?_).1) (c8 r ru hr).1, (c8 r ru hr).2⟩⟩, ?_, fun i x hx => ?_⟩
  · change (P 12 0 ≤ b ∧ b ≤ P 12 0 + 10) ∨ b = 12 ∨ (12 + 12 ≤ b ∧ b ≤ 12 + 14) ∨ (12 + 16 ≤ b ∧ b ≤ 12 + 18) at hb
    rcases c2 with e | e
    · change P 12 0 = 13 at e
      omega
    · have := e.1
      change 171 < P 12 0 at this
      omega
  · have hj := (List.getElem?_eq_some_iff.mp hB).1
    obtain ⟨i, hi, e⟩ := c3 j (by have := ok.1.2.2.2.1.1; omega)
    change P 27 j = 31 + 3 * i at e
    change P 27 j ≤ b at h1
    change b ≤ P 27 j + 2 at h2
    omega
  · have hm := c5 i hi
    change cM n P I L i (zM Z i) at hm
    show cM n P J M i (zM Z i)
    cases hz : zM Z i with
    | none => rw [hz] at hm; exact hm
    | some W =>
      rw [hz] at hm
      obtain ⟨⟨m1, m2⟩, m3, m4, m5⟩ := hm
      refine ⟨⟨m1, m2⟩, cW_congr (fun b hb => hI b ?_) (fun j B hB b h1 h2 => hI b ?_) m3, m4, m5⟩
      · rcases m4 with e | e
        · omega
        · have := e.1
          omega
      · have hj := (List.getElem?_eq_some_iff.mp hB).1
        rw [m5 j (by have := (ok.2.1 i W hz).2.2.2.1.1; omega)] at h1
        omega
  · exact ((congrFun (hI 1 (by omega)).1 5).trans c7)
  · have := (c8 r ru hr).2.1
    change 171 < P 11 r at this
    change P 11 r ≤ b at h1
    omega
  · exact ((congrFun (hI 1 (by omega)).1 1).trans c9)
  · exact ((congrFun (hI 2 (by omega)).1 i).trans (c10 i x hx))
theorem imG_lt {i r j : Nat} (hi : i < 4) (hr : r < 200) (hj : j < lenR r) : 4100 * i + offR r + j < 16400 := by
  have := offR_len r hr
  omega
theorem lenR_200 {r i : Nat} (h : i < lenR r) : r < 200 := by
  rcases Nat.lt_or_ge r 200 with q | q
  · exact q
  · exfalso
    have : lenR r = 0 := by
      unfold lenR
      split <;> first | omega | rfl
    omega
/-- what the reference's part rests on -/
theorem RI_congr {kz : Nat} (ok : okZ kz Z) (h1 : ∀ r i, i < lenR r → J r i = I r i) (h2 : J 123 51 = I 123 51 ∧ J 123 31 = I 123 31 ∧ J 123 27 = I 123 27 ∧ J 123 36 = I 123 36) (h3 : ∀ b, 142 ≤ b → b ≤ 156 → J b = I b) (h4 : ∀ i, i < 16400 → J 170 i = I 170 i) (h5 : ∀ i, i < 4 → J 171 i = I 171 i) (R : RI I Z) : RI J Z := by
  obtain ⟨r1, r2, ⟨r3, r4⟩, ⟨r5, r6⟩, r7⟩ := R
  refine ⟨rW_congr ok.1 h1 h2.1 r1, fun i hi => ?_, ⟨h2.2.1.trans r3, fun r ru hr => rR_congr (fun b q1 q2 => h3 b (by omega) q2) (r4 r ru hr)⟩, ⟨h2.2.2.1.trans r5, fun i x hx => ?_⟩, h2.2.2.2.trans r7.1, (congrFun (h3 142 (by omega) (by omega)) 0).trans r7.2⟩
  · have hm := r2 i hi
    cases hz : zM Z i with
    | none => rw [hz] at hm; exact (h5 i hi).trans hm
    | some W =>
      rw [hz] at hm
      exact ⟨(h5 i hi).trans hm.1, rW_congr (ok.2.1 i W hz) (fun r j hj => h4 _ (imG_lt hi (lenR_200 hj) hj)) (h4 _ (by omega)) hm.2⟩
  · rw [h3 150 (by omega) (by omega)]; exact r6 i x hx
/-- the reference has left all that matters -/
theorem Inv_ref (hG : GW K P) (hF : Fr (n, K, P, I, L)) (ok : okZ k Z) (C : CI (n, K, P, I, L) Z) (R : RI J Z) (hJ : ∀ b, b < 123 ∨ 171 < b → J b = I b) (hM : ∀ b, b < 123 ∨ 171 < b → M b = L b) : Inv k (n, K, P, J, M) :=
  ⟨⟨hG, hF⟩, Z, ok, CI_congr ok (fun b hb => ⟨hJ b (by omega), hM b (by omega)⟩) C, R⟩
end
def ruF (rs : List ruT) (f : Int) : Option ruT := if f < 0 then none else rs[f.toNat]?

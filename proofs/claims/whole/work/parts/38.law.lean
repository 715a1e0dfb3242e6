/-! The methods as steps over the whole memory; the law. -/
theorem law_lt {a n : Nat} (ha : a < 100000) (hn : n < 100000) : (nI n - (6 : Int32) < nI a) ↔ n < a + 6 := by
  rw [Int32.lt_iff_toInt_lt, show (6 : Int32) = nI 6 from rfl, pk_sub_toInt (by omega) (by omega), nI_toInt (by omega)]
  omega
def oX_feed (h : xH) (a1 : Int32) (a2 : Int32) (a3 : Int32) (a4 : Int32) (a5 : Int32) : Option (Int32 × xH) := Option.map (fun q => (q.1, (h.1, h.2.1, h.2.2.1, q.2, h.2.2.2.2))) (mX11_feed h.2.2.2.1 a1 a2 a3 a4 a5)
theorem koX_feed {E : xE} {B : Nat} {h h2 : xH} {a1 : Int32} {a2 : Int32} {a3 : Int32} {a4 : Int32} {a5 : Int32} {r : Int32} (d : Nat) (hd : 1 ≤ d) (G : GW h.2.1 h.2.2.1) (hm : oX_feed h a1 a2 a3 a4 a5 = some (r, h2)) : MX E B d 0 0 yX11_feed cX11_feed 6 (some .int) [.ref 1, .int a1, .int a2, .int a3, .int a4, .int a5] h (some (.int r), h2) := by
  unfold oX_feed at hm
  obtain ⟨q, e, hq⟩ := Option.map_eq_some_iff.mp hm
  cases hq
  exact kX11_feed (n := h.1) (K := h.2.1) (P := h.2.2.1) (I := h.2.2.2.1) (L := h.2.2.2.2) d hd G e
def oM_feed (h : xH) (a1 : Int32) (a2 : Int32) (a3 : Int32) (a4 : Int32) (a5 : Int32) : Option (Int32 × xH) := Option.map (fun q => (q.1, (h.1, h.2.1, h.2.2.1, q.2, h.2.2.2.2))) (mX12_feed h.2.2.2.1 a1 a2 a3 a4 a5)
theorem koM_feed {E : xE} {B : Nat} {h h2 : xH} {a1 : Int32} {a2 : Int32} {a3 : Int32} {a4 : Int32} {a5 : Int32} {r : Int32} (d : Nat) (hd : 1 ≤ d) (G : GW h.2.1 h.2.2.1) (hm : oM_feed h a1 a2 a3 a4 a5 = some (r, h2)) : MX E B d 0 0 yX12_feed cX12_feed 6 (some .int) [.ref 123, .int a1, .int a2, .int a3, .int a4, .int a5] h (some (.int r), h2) := by
  unfold oM_feed at hm
  obtain ⟨q, e, hq⟩ := Option.map_eq_some_iff.mp hm
  cases hq
  exact kX12_feed (n := h.1) (K := h.2.1) (P := h.2.2.1) (I := h.2.2.2.1) (L := h.2.2.2.2) d hd G e
def oX_end (h : xH) (a1 : Int32) : Option (Int32 × xH) := Option.map (fun q => (q.1, (h.1, h.2.1, h.2.2.1, q.2, h.2.2.2.2))) (mX11_end h.2.2.2.1 a1)
theorem koX_end {E : xE} {B : Nat} {h h2 : xH} {a1 : Int32} {r : Int32} (d : Nat) (hd : 0 ≤ d) (G : GW h.2.1 h.2.2.1) (hm : oX_end h a1 = some (r, h2)) : MX E B d 0 0 yX11_end cX11_end 2 (some .int) [.ref 1, .int a1] h (some (.int r), h2) := by
  unfold oX_end at hm
  obtain ⟨q, e, hq⟩ := Option.map_eq_some_iff.mp hm
  cases hq
  exact kX11_end (n := h.1) (K := h.2.1) (P := h.2.2.1) (I := h.2.2.2.1) (L := h.2.2.2.2) d hd G e
def oM_end (h : xH) (a1 : Int32) : Option (Int32 × xH) := Option.map (fun q => (q.1, (h.1, h.2.1, h.2.2.1, q.2, h.2.2.2.2))) (mX12_end h.2.2.2.1 a1)
theorem koM_end {E : xE} {B : Nat} {h h2 : xH} {a1 : Int32} {r : Int32} (d : Nat) (hd : 0 ≤ d) (G : GW h.2.1 h.2.2.1) (hm : oM_end h a1 = some (r, h2)) : MX E B d 0 0 yX12_end cX12_end 2 (some .int) [.ref 123, .int a1] h (some (.int r), h2) := by
  unfold oM_end at hm
  obtain ⟨q, e, hq⟩ := Option.map_eq_some_iff.mp hm
  cases hq
  exact kX12_end (n := h.1) (K := h.2.1) (P := h.2.2.1) (I := h.2.2.2.1) (L := h.2.2.2.2) d hd G e
def oX_street (h : xH)  : Option (Int32 × xH) := mX11_street h 
def oM_street (h : xH)  : Option (Int32 × xH) := Option.map (fun q => (q.1, (h.1, h.2.1, h.2.2.1, q.2, h.2.2.2.2))) (mX12_street h.2.2.2.1 )
theorem koM_street {E : xE} {B : Nat} {h h2 : xH}  {r : Int32} (d : Nat) (hd : 8 ≤ d) (G : GW h.2.1 h.2.2.1) (hm : oM_street h  = some (r, h2)) : MX E B d 0 0 yX12_street cX12_street 2 (some .int) [.ref 123] h (some (.int r), h2) := by
  unfold oM_street at hm
  obtain ⟨q, e, hq⟩ := Option.map_eq_some_iff.mp hm
  cases hq
  exact kX12_street (n := h.1) (K := h.2.1) (P := h.2.2.1) (I := h.2.2.2.1) (L := h.2.2.2.2) d hd G e
def oX_rule (h : xH)  : Option (Int32 × xH) := mX11_rule h 
def oM_rule (h : xH)  : Option (Int32 × xH) := Option.map (fun q => (q.1, (h.1, h.2.1, h.2.2.1, q.2, h.2.2.2.2))) (mX12_rule h.2.2.2.1 )
theorem koM_rule {E : xE} {B : Nat} {h h2 : xH}  {r : Int32} (d : Nat) (hd : 13 ≤ d) (G : GW h.2.1 h.2.2.1) (hm : oM_rule h  = some (r, h2)) : MX E B d 0 0 yX12_rule cX12_rule 3 (some .int) [.ref 123] h (some (.int r), h2) := by
  unfold oM_rule at hm
  obtain ⟨q, e, hq⟩ := Option.map_eq_some_iff.mp hm
  cases hq
  exact kX12_rule (n := h.1) (K := h.2.1) (P := h.2.2.1) (I := h.2.2.2.1) (L := h.2.2.2.2) d hd G e
def oX_force (h : xH) (a1 : Int32) : Option (Int32 × xH) := Option.map (fun q => (q.1, (h.1, h.2.1, h.2.2.1, q.2, h.2.2.2.2))) (mX11_force h.2.2.2.1 a1)
theorem koX_force {E : xE} {B : Nat} {h h2 : xH} {a1 : Int32} {r : Int32} (d : Nat) (hd : 0 ≤ d) (G : GW h.2.1 h.2.2.1) (hm : oX_force h a1 = some (r, h2)) : MX E B d 0 0 yX11_force cX11_force 3 (some .int) [.ref 1, .int a1] h (some (.int r), h2) := by
  unfold oX_force at hm
  obtain ⟨q, e, hq⟩ := Option.map_eq_some_iff.mp hm
  cases hq
  exact kX11_force (n := h.1) (K := h.2.1) (P := h.2.2.1) (I := h.2.2.2.1) (L := h.2.2.2.2) d hd G e
def oM_force (h : xH) (a1 : Int32) : Option (Int32 × xH) := Option.map (fun q => (q.1, (h.1, h.2.1, h.2.2.1, q.2, h.2.2.2.2))) (mX12_force h.2.2.2.1 a1)
theorem koM_force {E : xE} {B : Nat} {h h2 : xH} {a1 : Int32} {r : Int32} (d : Nat) (hd : 1 ≤ d) (G : GW h.2.1 h.2.2.1) (hm : oM_force h a1 = some (r, h2)) : MX E B d 0 0 yX12_force cX12_force 3 (some .int) [.ref 123, .int a1] h (some (.int r), h2) := by
  unfold oM_force at hm
  obtain ⟨q, e, hq⟩ := Option.map_eq_some_iff.mp hm
  cases hq
  exact kX12_force (n := h.1) (K := h.2.1) (P := h.2.2.1) (I := h.2.2.2.1) (L := h.2.2.2.2) d hd G e
def oX_cell (h : xH) (a1 : Int32) (a2 : Int32) : Option (Int32 × xH) := Option.map (fun q => (q, h)) (mX11_cell h.2.2.1 h.2.2.2.1 h.2.2.2.2 a1 a2)
theorem koX_cell {E : xE} {B : Nat} {h h2 : xH} {a1 : Int32} {a2 : Int32} {r : Int32} (d : Nat) (hd : 3 ≤ d) (G : GW h.2.1 h.2.2.1) (hm : oX_cell h a1 a2 = some (r, h2)) : MX E B d 0 0 yX11_cell cX11_cell 5 (some .int) [.ref 1, .int a1, .int a2] h (some (.int r), h2) := by
  unfold oX_cell at hm
  obtain ⟨q, e, hq⟩ := Option.map_eq_some_iff.mp hm
  cases hq
  exact kX11_cell (n := h.1) (K := h.2.1) (P := h.2.2.1) (I := h.2.2.2.1) (L := h.2.2.2.2) d hd G e
def oM_cell (h : xH) (a1 : Int32) (a2 : Int32) : Option (Int32 × xH) := Option.map (fun q => (q, h)) (mX12_cell h.2.2.2.1 a1 a2)
theorem koM_cell {E : xE} {B : Nat} {h h2 : xH} {a1 : Int32} {a2 : Int32} {r : Int32} (d : Nat) (hd : 3 ≤ d) (G : GW h.2.1 h.2.2.1) (hm : oM_cell h a1 a2 = some (r, h2)) : MX E B d 0 0 yX12_cell cX12_cell 3 (some .int) [.ref 123, .int a1, .int a2] h (some (.int r), h2) := by
  unfold oM_cell at hm
  obtain ⟨q, e, hq⟩ := Option.map_eq_some_iff.mp hm
  cases hq
  exact kX12_cell (n := h.1) (K := h.2.1) (P := h.2.2.1) (I := h.2.2.2.1) (L := h.2.2.2.2) d hd G e
def oX_coat (h : xH) (a1 : Int32) (a2 : Int32) (a3 : Int32) : Option (Int32 × xH) := Option.map (fun q => (q, h)) (mX11_coat h.2.2.1 h.2.2.2.1 h.2.2.2.2 a1 a2 a3)
theorem koX_coat {E : xE} {B : Nat} {h h2 : xH} {a1 : Int32} {a2 : Int32} {a3 : Int32} {r : Int32} (d : Nat) (hd : 1 ≤ d) (G : GW h.2.1 h.2.2.1) (hm : oX_coat h a1 a2 a3 = some (r, h2)) : MX E B d 0 0 yX11_coat cX11_coat 7 (some .int) [.ref 1, .int a1, .int a2, .int a3] h (some (.int r), h2) := by
  unfold oX_coat at hm
  obtain ⟨q, e, hq⟩ := Option.map_eq_some_iff.mp hm
  cases hq
  exact kX11_coat (n := h.1) (K := h.2.1) (P := h.2.2.1) (I := h.2.2.2.1) (L := h.2.2.2.2) d hd G e
def oM_coat (h : xH) (a1 : Int32) (a2 : Int32) (a3 : Int32) : Option (Int32 × xH) := Option.map (fun q => (q, h)) (mX12_coat h.2.2.2.1 a1 a2 a3)
theorem koM_coat {E : xE} {B : Nat} {h h2 : xH} {a1 : Int32} {a2 : Int32} {a3 : Int32} {r : Int32} (d : Nat) (hd : 2 ≤ d) (G : GW h.2.1 h.2.2.1) (hm : oM_coat h a1 a2 a3 = some (r, h2)) : MX E B d 0 0 yX12_coat cX12_coat 5 (some .int) [.ref 123, .int a1, .int a2, .int a3] h (some (.int r), h2) := by
  unfold oM_coat at hm
  obtain ⟨q, e, hq⟩ := Option.map_eq_some_iff.mp hm
  cases hq
  exact kX12_coat (n := h.1) (K := h.2.1) (P := h.2.2.1) (I := h.2.2.2.1) (L := h.2.2.2.2) d hd G e
def oX_thing (h : xH) (a1 : Int32) (a2 : Int32) : Option (Int32 × xH) := Option.map (fun q => (q, h)) (mX11_thing h.2.2.1 h.2.2.2.1 h.2.2.2.2 a1 a2)
theorem koX_thing {E : xE} {B : Nat} {h h2 : xH} {a1 : Int32} {a2 : Int32} {r : Int32} (d : Nat) (hd : 5 ≤ d) (G : GW h.2.1 h.2.2.1) (hm : oX_thing h a1 a2 = some (r, h2)) : MX E B d 0 0 yX11_thing cX11_thing 3 (some .int) [.ref 1, .int a1, .int a2] h (some (.int r), h2) := by
  unfold oX_thing at hm
  obtain ⟨q, e, hq⟩ := Option.map_eq_some_iff.mp hm
  cases hq
  exact kX11_thing (n := h.1) (K := h.2.1) (P := h.2.2.1) (I := h.2.2.2.1) (L := h.2.2.2.2) d hd G e
def oM_thing (h : xH) (a1 : Int32) (a2 : Int32) : Option (Int32 × xH) := Option.map (fun q => (q.1, (h.1, h.2.1, h.2.2.1, q.2, h.2.2.2.2))) (mX12_thing h.2.2.2.1 a1 a2)
theorem koM_thing {E : xE} {B : Nat} {h h2 : xH} {a1 : Int32} {a2 : Int32} {r : Int32} (d : Nat) (hd : 4 ≤ d) (G : GW h.2.1 h.2.2.1) (hm : oM_thing h a1 a2 = some (r, h2)) : MX E B d 0 0 yX12_thing cX12_thing 3 (some .int) [.ref 123, .int a1, .int a2] h (some (.int r), h2) := by
  unfold oM_thing at hm
  obtain ⟨q, e, hq⟩ := Option.map_eq_some_iff.mp hm
  cases hq
  exact kX12_thing (n := h.1) (K := h.2.1) (P := h.2.2.1) (I := h.2.2.2.1) (L := h.2.2.2.2) d hd G e
def oX_painter (h : xH) (a1 : Int32) (a2 : Int32) : Option (Int32 × xH) := Option.map (fun q => (q, h)) (mX11_painter h.2.2.1 h.2.2.2.1 h.2.2.2.2 a1 a2)
theorem koX_painter {E : xE} {B : Nat} {h h2 : xH} {a1 : Int32} {a2 : Int32} {r : Int32} (d : Nat) (hd : 6 ≤ d) (G : GW h.2.1 h.2.2.1) (hm : oX_painter h a1 a2 = some (r, h2)) : MX E B d 0 0 yX11_painter cX11_painter 3 (some .int) [.ref 1, .int a1, .int a2] h (some (.int r), h2) := by
  unfold oX_painter at hm
  obtain ⟨q, e, hq⟩ := Option.map_eq_some_iff.mp hm
  cases hq
  exact kX11_painter (n := h.1) (K := h.2.1) (P := h.2.2.1) (I := h.2.2.2.1) (L := h.2.2.2.2) d hd G e
def oM_painter (h : xH) (a1 : Int32) (a2 : Int32) : Option (Int32 × xH) := Option.map (fun q => (q.1, (h.1, h.2.1, h.2.2.1, q.2, h.2.2.2.2))) (mX12_painter h.2.2.2.1 a1 a2)
theorem koM_painter {E : xE} {B : Nat} {h h2 : xH} {a1 : Int32} {a2 : Int32} {r : Int32} (d : Nat) (hd : 4 ≤ d) (G : GW h.2.1 h.2.2.1) (hm : oM_painter h a1 a2 = some (r, h2)) : MX E B d 0 0 yX12_painter cX12_painter 5 (some .int) [.ref 123, .int a1, .int a2] h (some (.int r), h2) := by
  unfold oM_painter at hm
  obtain ⟨q, e, hq⟩ := Option.map_eq_some_iff.mp hm
  cases hq
  exact kX12_painter (n := h.1) (K := h.2.1) (P := h.2.2.1) (I := h.2.2.2.1) (L := h.2.2.2.2) d hd G e
def oX_rain (h : xH) (a1 : Int32) : Option (Int32 × xH) := Option.map (fun q => (q, h)) (mX11_rain h.2.2.1 h.2.2.2.1 a1)
theorem koX_rain {E : xE} {B : Nat} {h h2 : xH} {a1 : Int32} {r : Int32} (d : Nat) (hd : 1 ≤ d) (G : GW h.2.1 h.2.2.1) (hm : oX_rain h a1 = some (r, h2)) : MX E B d 0 0 yX11_rain cX11_rain 2 (some .int) [.ref 1, .int a1] h (some (.int r), h2) := by
  unfold oX_rain at hm
  obtain ⟨q, e, hq⟩ := Option.map_eq_some_iff.mp hm
  cases hq
  exact kX11_rain (n := h.1) (K := h.2.1) (P := h.2.2.1) (I := h.2.2.2.1) (L := h.2.2.2.2) d hd G e
def oM_rain (h : xH) (a1 : Int32) : Option (Int32 × xH) := Option.map (fun q => (q, h)) (mX12_rain h.2.2.2.1 a1)
theorem koM_rain {E : xE} {B : Nat} {h h2 : xH} {a1 : Int32} {r : Int32} (d : Nat) (hd : 2 ≤ d) (G : GW h.2.1 h.2.2.1) (hm : oM_rain h a1 = some (r, h2)) : MX E B d 0 0 yX12_rain cX12_rain 2 (some .int) [.ref 123, .int a1] h (some (.int r), h2) := by
  unfold oM_rain at hm
  obtain ⟨q, e, hq⟩ := Option.map_eq_some_iff.mp hm
  cases hq
  exact kX12_rain (n := h.1) (K := h.2.1) (P := h.2.2.1) (I := h.2.2.2.1) (L := h.2.2.2.2) d hd G e
def oX_hour (h : xH)  : Option (Int32 × xH) := Option.map (fun q => (q.1, (h.1, h.2.1, q.2.1, q.2.2.1, q.2.2.2))) (mX11_hour h.2.1 h.2.2.1 h.2.2.2.1 h.2.2.2.2 )
theorem koX_hour {E : xE} {B : Nat} {h h2 : xH}  {r : Int32} (d : Nat) (hd : 6 ≤ d) (G : GW h.2.1 h.2.2.1) (hm : oX_hour h  = some (r, h2)) : MX E B d 0 0 yX11_hour cX11_hour 1 (some .int) [.ref 1] h (some (.int r), h2) := by
  unfold oX_hour at hm
  obtain ⟨q, e, hq⟩ := Option.map_eq_some_iff.mp hm
  cases hq
  exact kX11_hour (n := h.1) (K := h.2.1) (P := h.2.2.1) (I := h.2.2.2.1) (L := h.2.2.2.2) d hd G e
def oM_hour (h : xH)  : Option (Int32 × xH) := Option.map (fun q => (q.1, (h.1, h.2.1, h.2.2.1, q.2.1, q.2.2))) (mX12_hour h.2.2.2.1 h.2.2.2.2 )
theorem koM_hour {E : xE} {B : Nat} {h h2 : xH}  {r : Int32} (d : Nat) (hd : 7 ≤ d) (G : GW h.2.1 h.2.2.1) (hm : oM_hour h  = some (r, h2)) : MX E B d 0 0 yX12_hour cX12_hour 2 (some .int) [.ref 123] h (some (.int r), h2) := by
  unfold oM_hour at hm
  obtain ⟨q, e, hq⟩ := Option.map_eq_some_iff.mp hm
  cases hq
  exact kX12_hour (n := h.1) (K := h.2.1) (P := h.2.2.1) (I := h.2.2.2.1) (L := h.2.2.2.2) d hd G e
def oX_paint (h : xH) (a1 : Int32) (a2 : Int32) : Option (Int32 × xH) := Option.map (fun q => (q.1, (h.1, h.2.1, q.2.1, q.2.2.1, q.2.2.2))) (mX11_paint h.2.2.1 h.2.2.2.1 h.2.2.2.2 a1 a2)
theorem koX_paint {E : xE} {B : Nat} {h h2 : xH} {a1 : Int32} {a2 : Int32} {r : Int32} (d : Nat) (hd : 3 ≤ d) (G : GW h.2.1 h.2.2.1) (hm : oX_paint h a1 a2 = some (r, h2)) : MX E B d 0 0 yX11_paint cX11_paint 3 (some .int) [.ref 1, .int a1, .int a2] h (some (.int r), h2) := by
  unfold oX_paint at hm
  obtain ⟨q, e, hq⟩ := Option.map_eq_some_iff.mp hm
  cases hq
  exact kX11_paint (n := h.1) (K := h.2.1) (P := h.2.2.1) (I := h.2.2.2.1) (L := h.2.2.2.2) d hd G e
def oM_paint (h : xH) (a1 : Int32) (a2 : Int32) : Option (Int32 × xH) := Option.map (fun q => (q.1, (h.1, h.2.1, h.2.2.1, q.2, h.2.2.2.2))) (mX12_paint h.2.2.2.1 a1 a2)
theorem koM_paint {E : xE} {B : Nat} {h h2 : xH} {a1 : Int32} {a2 : Int32} {r : Int32} (d : Nat) (hd : 4 ≤ d) (G : GW h.2.1 h.2.2.1) (hm : oM_paint h a1 a2 = some (r, h2)) : MX E B d 0 0 yX12_paint cX12_paint 3 (some .int) [.ref 123, .int a1, .int a2] h (some (.int r), h2) := by
  unfold oM_paint at hm
  obtain ⟨q, e, hq⟩ := Option.map_eq_some_iff.mp hm
  cases hq
  exact kX12_paint (n := h.1) (K := h.2.1) (P := h.2.2.1) (I := h.2.2.2.1) (L := h.2.2.2.2) d hd G e
def oX_scrape (h : xH) (a1 : Int32) : Option (Int32 × xH) := Option.map (fun q => (q.1, (h.1, h.2.1, q.2.1, q.2.2.1, q.2.2.2))) (mX11_scrape h.2.2.1 h.2.2.2.1 h.2.2.2.2 a1)
theorem koX_scrape {E : xE} {B : Nat} {h h2 : xH} {a1 : Int32} {r : Int32} (d : Nat) (hd : 3 ≤ d) (G : GW h.2.1 h.2.2.1) (hm : oX_scrape h a1 = some (r, h2)) : MX E B d 0 0 yX11_scrape cX11_scrape 3 (some .int) [.ref 1, .int a1] h (some (.int r), h2) := by
  unfold oX_scrape at hm
  obtain ⟨q, e, hq⟩ := Option.map_eq_some_iff.mp hm
  cases hq
  exact kX11_scrape (n := h.1) (K := h.2.1) (P := h.2.2.1) (I := h.2.2.2.1) (L := h.2.2.2.2) d hd G e
def oM_scrape (h : xH) (a1 : Int32) : Option (Int32 × xH) := Option.map (fun q => (q.1, (h.1, h.2.1, h.2.2.1, q.2, h.2.2.2.2))) (mX12_scrape h.2.2.2.1 a1)
theorem koM_scrape {E : xE} {B : Nat} {h h2 : xH} {a1 : Int32} {r : Int32} (d : Nat) (hd : 4 ≤ d) (G : GW h.2.1 h.2.2.1) (hm : oM_scrape h a1 = some (r, h2)) : MX E B d 0 0 yX12_scrape cX12_scrape 3 (some .int) [.ref 123, .int a1] h (some (.int r), h2) := by
  unfold oM_scrape at hm
  obtain ⟨q, e, hq⟩ := Option.map_eq_some_iff.mp hm
  cases hq
  exact kX12_scrape (n := h.1) (K := h.2.1) (P := h.2.2.1) (I := h.2.2.2.1) (L := h.2.2.2.2) d hd G e
def oX_vote (h : xH) (a1 : Int32) : Option (Int32 × xH) := Option.map (fun q => (q.1, (h.1, h.2.1, q.2.1, q.2.2.1, q.2.2.2))) (mX11_vote h.2.2.1 h.2.2.2.1 h.2.2.2.2 a1)
theorem koX_vote {E : xE} {B : Nat} {h h2 : xH} {a1 : Int32} {r : Int32} (d : Nat) (hd : 3 ≤ d) (G : GW h.2.1 h.2.2.1) (hm : oX_vote h a1 = some (r, h2)) : MX E B d 0 0 yX11_vote cX11_vote 2 (some .int) [.ref 1, .int a1] h (some (.int r), h2) := by
  unfold oX_vote at hm
  obtain ⟨q, e, hq⟩ := Option.map_eq_some_iff.mp hm
  cases hq
  exact kX11_vote (n := h.1) (K := h.2.1) (P := h.2.2.1) (I := h.2.2.2.1) (L := h.2.2.2.2) d hd G e
def oM_vote (h : xH) (a1 : Int32) : Option (Int32 × xH) := Option.map (fun q => (q.1, (h.1, h.2.1, h.2.2.1, q.2, h.2.2.2.2))) (mX12_vote h.2.2.2.1 a1)
theorem koM_vote {E : xE} {B : Nat} {h h2 : xH} {a1 : Int32} {r : Int32} (d : Nat) (hd : 4 ≤ d) (G : GW h.2.1 h.2.2.1) (hm : oM_vote h a1 = some (r, h2)) : MX E B d 0 0 yX12_vote cX12_vote 2 (some .int) [.ref 123, .int a1] h (some (.int r), h2) := by
  unfold oM_vote at hm
  obtain ⟨q, e, hq⟩ := Option.map_eq_some_iff.mp hm
  cases hq
  exact kX12_vote (n := h.1) (K := h.2.1) (P := h.2.2.1) (I := h.2.2.2.1) (L := h.2.2.2.2) d hd G e
def oX_undo (h : xH)  : Option (Int32 × xH) := Option.map (fun q => (q.1, (h.1, h.2.1, h.2.2.1, q.2.1, q.2.2))) (mX11_undo h.2.2.1 h.2.2.2.1 h.2.2.2.2 )
theorem koX_undo {E : xE} {B : Nat} {h h2 : xH}  {r : Int32} (d : Nat) (hd : 3 ≤ d) (G : GW h.2.1 h.2.2.1) (hm : oX_undo h  = some (r, h2)) : MX E B d 0 0 yX11_undo cX11_undo 1 (some .int) [.ref 1] h (some (.int r), h2) := by
  unfold oX_undo at hm
  obtain ⟨q, e, hq⟩ := Option.map_eq_some_iff.mp hm
  cases hq
  exact kX11_undo (n := h.1) (K := h.2.1) (P := h.2.2.1) (I := h.2.2.2.1) (L := h.2.2.2.2) d hd G e
def oM_undo (h : xH)  : Option (Int32 × xH) := Option.map (fun q => (q.1, (h.1, h.2.1, h.2.2.1, q.2, h.2.2.2.2))) (mX12_undo h.2.2.2.1 )
theorem koM_undo {E : xE} {B : Nat} {h h2 : xH}  {r : Int32} (d : Nat) (hd : 3 ≤ d) (G : GW h.2.1 h.2.2.1) (hm : oM_undo h  = some (r, h2)) : MX E B d 0 0 yX12_undo cX12_undo 1 (some .int) [.ref 123] h (some (.int r), h2) := by
  unfold oM_undo at hm
  obtain ⟨q, e, hq⟩ := Option.map_eq_some_iff.mp hm
  cases hq
  exact kX12_undo (n := h.1) (K := h.2.1) (P := h.2.2.1) (I := h.2.2.2.1) (L := h.2.2.2.2) d hd G e
def oX_ahead (h : xH) (a1 : Int32) (a2 : Int32) (a3 : Int32) : Option (Int32 × xH) := Option.map (fun q => (q.1, (h.1, h.2.1, h.2.2.1, q.2.1, q.2.2))) (mX11_ahead h.2.1 h.2.2.1 h.2.2.2.1 h.2.2.2.2 a1 a2 a3)
theorem koX_ahead {E : xE} {B : Nat} {h h2 : xH} {a1 : Int32} {a2 : Int32} {a3 : Int32} {r : Int32} (d : Nat) (hd : 7 ≤ d) (G : GW h.2.1 h.2.2.1) (hm : oX_ahead h a1 a2 a3 = some (r, h2)) : MX E B d 0 0 yX11_ahead cX11_ahead 4 (some .int) [.ref 1, .int a1, .int a2, .int a3] h (some (.int r), h2) := by
  unfold oX_ahead at hm
  obtain ⟨q, e, hq⟩ := Option.map_eq_some_iff.mp hm
  cases hq
  exact kX11_ahead (n := h.1) (K := h.2.1) (P := h.2.2.1) (I := h.2.2.2.1) (L := h.2.2.2.2) d hd G e
def oM_ahead (h : xH) (a1 : Int32) (a2 : Int32) (a3 : Int32) : Option (Int32 × xH) := Option.map (fun q => (q.1, (h.1, h.2.1, h.2.2.1, q.2.1, q.2.2))) (mX12_ahead h.2.2.2.1 h.2.2.2.2 a1 a2 a3)
theorem koM_ahead {E : xE} {B : Nat} {h h2 : xH} {a1 : Int32} {a2 : Int32} {a3 : Int32} {r : Int32} (d : Nat) (hd : 8 ≤ d) (G : GW h.2.1 h.2.2.1) (hm : oM_ahead h a1 a2 a3 = some (r, h2)) : MX E B d 0 0 yX12_ahead cX12_ahead 5 (some .int) [.ref 123, .int a1, .int a2, .int a3] h (some (.int r), h2) := by
  unfold oM_ahead at hm
  obtain ⟨q, e, hq⟩ := Option.map_eq_some_iff.mp hm
  cases hq
  exact kX12_ahead (n := h.1) (K := h.2.1) (P := h.2.2.1) (I := h.2.2.2.1) (L := h.2.2.2.2) d hd G e
def oX_rents (h : xH) (a1 : Int32) (a2 : Int32) : Option (Int32 × xH) := Option.map (fun q => (q.1, (h.1, h.2.1, h.2.2.1, q.2.1, q.2.2))) (mX11_rents h.2.1 h.2.2.1 h.2.2.2.1 h.2.2.2.2 a1 a2)
theorem koX_rents {E : xE} {B : Nat} {h h2 : xH} {a1 : Int32} {a2 : Int32} {r : Int32} (d : Nat) (hd : 7 ≤ d) (G : GW h.2.1 h.2.2.1) (hm : oX_rents h a1 a2 = some (r, h2)) : MX E B d 0 0 yX11_rents cX11_rents 3 (some .int) [.ref 1, .int a1, .int a2] h (some (.int r), h2) := by
  unfold oX_rents at hm
  obtain ⟨q, e, hq⟩ := Option.map_eq_some_iff.mp hm
  cases hq
  exact kX11_rents (n := h.1) (K := h.2.1) (P := h.2.2.1) (I := h.2.2.2.1) (L := h.2.2.2.2) d hd G e
def oM_rents (h : xH) (a1 : Int32) (a2 : Int32) : Option (Int32 × xH) := Option.map (fun q => (q.1, (h.1, h.2.1, h.2.2.1, q.2.1, q.2.2))) (mX12_rents h.2.2.2.1 h.2.2.2.2 a1 a2)
theorem koM_rents {E : xE} {B : Nat} {h h2 : xH} {a1 : Int32} {a2 : Int32} {r : Int32} (d : Nat) (hd : 8 ≤ d) (G : GW h.2.1 h.2.2.1) (hm : oM_rents h a1 a2 = some (r, h2)) : MX E B d 0 0 yX12_rents cX12_rents 3 (some .int) [.ref 123, .int a1, .int a2] h (some (.int r), h2) := by
  unfold oM_rents at hm
  obtain ⟨q, e, hq⟩ := Option.map_eq_some_iff.mp hm
  cases hq
  exact kX12_rents (n := h.1) (K := h.2.1) (P := h.2.2.1) (I := h.2.2.2.1) (L := h.2.2.2.2) d hd G e
def oX_least (h : xH) (a1 : Int32) (a2 : Int32) (a3 : Int32) (a4 : Int32) : Option (Int32 × xH) := Option.map (fun q => (q.1, (h.1, h.2.1, h.2.2.1, q.2, h.2.2.2.2))) (mX11_least h.2.2.1 h.2.2.2.2 h.2.2.2.1 a1 a2 a3 a4)
theorem koX_least {E : xE} {B : Nat} {h h2 : xH} {a1 : Int32} {a2 : Int32} {a3 : Int32} {a4 : Int32} {r : Int32} (d : Nat) (hd : 5 ≤ d) (G : GW h.2.1 h.2.2.1) (hm : oX_least h a1 a2 a3 a4 = some (r, h2)) : MX E B d 0 0 yX11_least cX11_least 6 (some .int) [.ref 1, .int a1, .int a2, .int a3, .int a4] h (some (.int r), h2) := by
  unfold oX_least at hm
  obtain ⟨q, e, hq⟩ := Option.map_eq_some_iff.mp hm
  cases hq
  exact kX11_least (n := h.1) (K := h.2.1) (P := h.2.2.1) (I := h.2.2.2.1) (L := h.2.2.2.2) d hd G e
def oM_least (h : xH) (a1 : Int32) (a2 : Int32) (a3 : Int32) (a4 : Int32) : Option (Int32 × xH) := Option.map (fun q => (q.1, (h.1, h.2.1, h.2.2.1, q.2, h.2.2.2.2))) (mX12_least h.2.2.2.1 a1 a2 a3 a4)
theorem koM_least {E : xE} {B : Nat} {h h2 : xH} {a1 : Int32} {a2 : Int32} {a3 : Int32} {a4 : Int32} {r : Int32} (d : Nat) (hd : 7 ≤ d) (G : GW h.2.1 h.2.2.1) (hm : oM_least h a1 a2 a3 a4 = some (r, h2)) : MX E B d 0 0 yX12_least cX12_least 7 (some .int) [.ref 123, .int a1, .int a2, .int a3, .int a4] h (some (.int r), h2) := by
  unfold oM_least at hm
  obtain ⟨q, e, hq⟩ := Option.map_eq_some_iff.mp hm
  cases hq
  exact kX12_least (n := h.1) (K := h.2.1) (P := h.2.2.1) (I := h.2.2.2.1) (L := h.2.2.2.2) d hd G e
def oX_fewest (h : xH) (a1 : Int32) (a2 : Int32) (a3 : Int32) : Option (Int32 × xH) := Option.map (fun q => (q.1, (h.1, h.2.1, h.2.2.1, q.2, h.2.2.2.2))) (mX11_fewest h.2.2.1 h.2.2.2.2 h.2.2.2.1 a1 a2 a3)
theorem koX_fewest {E : xE} {B : Nat} {h h2 : xH} {a1 : Int32} {a2 : Int32} {a3 : Int32} {r : Int32} (d : Nat) (hd : 14 ≤ d) (G : GW h.2.1 h.2.2.1) (hm : oX_fewest h a1 a2 a3 = some (r, h2)) : MX E B d 0 0 yX11_fewest cX11_fewest 4 (some .int) [.ref 1, .int a1, .int a2, .int a3] h (some (.int r), h2) := by
  unfold oX_fewest at hm
  obtain ⟨q, e, hq⟩ := Option.map_eq_some_iff.mp hm
  cases hq
  exact kX11_fewest (n := h.1) (K := h.2.1) (P := h.2.2.1) (I := h.2.2.2.1) (L := h.2.2.2.2) d hd G e
def oM_fewest (h : xH) (a1 : Int32) (a2 : Int32) (a3 : Int32) : Option (Int32 × xH) := Option.map (fun q => (q.1, (h.1, h.2.1, h.2.2.1, q.2, h.2.2.2.2))) (mX12_fewest h.2.2.2.1 a1 a2 a3)
theorem koM_fewest {E : xE} {B : Nat} {h h2 : xH} {a1 : Int32} {a2 : Int32} {a3 : Int32} {r : Int32} (d : Nat) (hd : 3 ≤ d) (G : GW h.2.1 h.2.2.1) (hm : oM_fewest h a1 a2 a3 = some (r, h2)) : MX E B d 0 0 yX12_fewest cX12_fewest 7 (some .int) [.ref 123, .int a1, .int a2, .int a3] h (some (.int r), h2) := by
  unfold oM_fewest at hm
  obtain ⟨q, e, hq⟩ := Option.map_eq_some_iff.mp hm
  cases hq
  exact kX12_fewest (n := h.1) (K := h.2.1) (P := h.2.2.1) (I := h.2.2.2.1) (L := h.2.2.2.2) d hd G e
def oX_when (h : xH)  : Option (Int32 × xH) := Option.map (fun q => (q, h)) (mX11_when h.2.2.1 h.2.2.2.1 )
theorem koX_when {E : xE} {B : Nat} {h h2 : xH}  {r : Int32} (d : Nat) (hd : 2 ≤ d) (G : GW h.2.1 h.2.2.1) (hm : oX_when h  = some (r, h2)) : MX E B d 0 0 yX11_when cX11_when 2 (some .int) [.ref 1] h (some (.int r), h2) := by
  unfold oX_when at hm
  obtain ⟨q, e, hq⟩ := Option.map_eq_some_iff.mp hm
  cases hq
  exact kX11_when (n := h.1) (K := h.2.1) (P := h.2.2.1) (I := h.2.2.2.1) (L := h.2.2.2.2) d hd G e
def oM_when (h : xH)  : Option (Int32 × xH) := Option.map (fun q => (q, h)) (mX12_when h.2.2.2.1 )
theorem koM_when {E : xE} {B : Nat} {h h2 : xH}  {r : Int32} (d : Nat) (hd : 2 ≤ d) (G : GW h.2.1 h.2.2.1) (hm : oM_when h  = some (r, h2)) : MX E B d 0 0 yX12_when cX12_when 4 (some .int) [.ref 123] h (some (.int r), h2) := by
  unfold oM_when at hm
  obtain ⟨q, e, hq⟩ := Option.map_eq_some_iff.mp hm
  cases hq
  exact kX12_when (n := h.1) (K := h.2.1) (P := h.2.2.1) (I := h.2.2.2.1) (L := h.2.2.2.2) d hd G e
def oX_game (h : xH) (a1 : Int32) (a2 : Int32) (a3 : Int32) (a4 : Int32) (a5 : Int32) : Option (Int32 × xH) := Option.map (fun q => (q.1, (h.1, h.2.1, h.2.2.1, q.2.1, q.2.2))) (mX11_game h.2.2.1 h.2.2.2.1 h.2.2.2.2 a1 a2 a3 a4 a5)
theorem koX_game {E : xE} {B : Nat} {h h2 : xH} {a1 : Int32} {a2 : Int32} {a3 : Int32} {a4 : Int32} {a5 : Int32} {r : Int32} (d : Nat) (hd : 16 ≤ d) (G : GW h.2.1 h.2.2.1) (hm : oX_game h a1 a2 a3 a4 a5 = some (r, h2)) : MX E B d 0 0 yX11_game cX11_game 7 (some .int) [.ref 1, .int a1, .int a2, .int a3, .int a4, .int a5] h (some (.int r), h2) := by
  unfold oX_game at hm
  obtain ⟨q, e, hq⟩ := Option.map_eq_some_iff.mp hm
  cases hq
  exact kX11_game (n := h.1) (K := h.2.1) (P := h.2.2.1) (I := h.2.2.2.1) (L := h.2.2.2.2) d hd G e
def oM_game (h : xH) (a1 : Int32) (a2 : Int32) (a3 : Int32) (a4 : Int32) (a5 : Int32) : Option (Int32 × xH) := Option.map (fun q => (q.1, (h.1, h.2.1, h.2.2.1, q.2, h.2.2.2.2))) (mX12_game h.2.2.2.1 a1 a2 a3 a4 a5)
theorem koM_game {E : xE} {B : Nat} {h h2 : xH} {a1 : Int32} {a2 : Int32} {a3 : Int32} {a4 : Int32} {a5 : Int32} {r : Int32} (d : Nat) (hd : 8 ≤ d) (G : GW h.2.1 h.2.2.1) (hm : oM_game h a1 a2 a3 a4 a5 = some (r, h2)) : MX E B d 0 0 yX12_game cX12_game 7 (some .int) [.ref 123, .int a1, .int a2, .int a3, .int a4, .int a5] h (some (.int r), h2) := by
  unfold oM_game at hm
  obtain ⟨q, e, hq⟩ := Option.map_eq_some_iff.mp hm
  cases hq
  exact kX12_game (n := h.1) (K := h.2.1) (P := h.2.2.1) (I := h.2.2.2.1) (L := h.2.2.2.2) d hd G e
def oX_share (h : xH) (a1 : Int32) (a2 : Int32) (a3 : Int32) : Option (Int32 × xH) := Option.map (fun q => (q, h)) (mX11_share h.2.2.1 h.2.2.2.1 h.2.2.2.2 a1 a2 a3)
theorem koX_share {E : xE} {B : Nat} {h h2 : xH} {a1 : Int32} {a2 : Int32} {a3 : Int32} {r : Int32} (d : Nat) (hd : 4 ≤ d) (G : GW h.2.1 h.2.2.1) (hm : oX_share h a1 a2 a3 = some (r, h2)) : MX E B d 0 0 yX11_share cX11_share 7 (some .int) [.ref 1, .int a1, .int a2, .int a3] h (some (.int r), h2) := by
  unfold oX_share at hm
  obtain ⟨q, e, hq⟩ := Option.map_eq_some_iff.mp hm
  cases hq
  exact kX11_share (n := h.1) (K := h.2.1) (P := h.2.2.1) (I := h.2.2.2.1) (L := h.2.2.2.2) d hd G e
def oM_share (h : xH) (a1 : Int32) (a2 : Int32) (a3 : Int32) : Option (Int32 × xH) := Option.map (fun q => (q.1, (h.1, h.2.1, h.2.2.1, q.2, h.2.2.2.2))) (mX12_share h.2.2.2.1 a1 a2 a3)
theorem koM_share {E : xE} {B : Nat} {h h2 : xH} {a1 : Int32} {a2 : Int32} {a3 : Int32} {r : Int32} (d : Nat) (hd : 3 ≤ d) (G : GW h.2.1 h.2.2.1) (hm : oM_share h a1 a2 a3 = some (r, h2)) : MX E B d 0 0 yX12_share cX12_share 8 (some .int) [.ref 123, .int a1, .int a2, .int a3] h (some (.int r), h2) := by
  unfold oM_share at hm
  obtain ⟨q, e, hq⟩ := Option.map_eq_some_iff.mp hm
  cases hq
  exact kX12_share (n := h.1) (K := h.2.1) (P := h.2.2.1) (I := h.2.2.2.1) (L := h.2.2.2.2) d hd G e
def oX_then (h : xH) (a1 : Int32) (a2 : Int32) : Option (Int32 × xH) := Option.map (fun q => (q, h)) (mX11_then h.2.2.1 h.2.2.2.1 h.2.2.2.2 a1 a2)
theorem koX_then {E : xE} {B : Nat} {h h2 : xH} {a1 : Int32} {a2 : Int32} {r : Int32} (d : Nat) (hd : 3 ≤ d) (G : GW h.2.1 h.2.2.1) (hm : oX_then h a1 a2 = some (r, h2)) : MX E B d 0 0 yX11_then cX11_then 8 (some .int) [.ref 1, .int a1, .int a2] h (some (.int r), h2) := by
  unfold oX_then at hm
  obtain ⟨q, e, hq⟩ := Option.map_eq_some_iff.mp hm
  cases hq
  exact kX11_then (n := h.1) (K := h.2.1) (P := h.2.2.1) (I := h.2.2.2.1) (L := h.2.2.2.2) d hd G e
def oM_then (h : xH) (a1 : Int32) (a2 : Int32) : Option (Int32 × xH) := Option.map (fun q => (q.1, (h.1, h.2.1, h.2.2.1, q.2, h.2.2.2.2))) (mX12_then h.2.2.2.1 a1 a2)
theorem koM_then {E : xE} {B : Nat} {h h2 : xH} {a1 : Int32} {a2 : Int32} {r : Int32} (d : Nat) (hd : 3 ≤ d) (G : GW h.2.1 h.2.2.1) (hm : oM_then h a1 a2 = some (r, h2)) : MX E B d 0 0 yX12_then cX12_then 3 (some .int) [.ref 123, .int a1, .int a2] h (some (.int r), h2) := by
  unfold oM_then at hm
  obtain ⟨q, e, hq⟩ := Option.map_eq_some_iff.mp hm
  cases hq
  exact kX12_then (n := h.1) (K := h.2.1) (P := h.2.2.1) (I := h.2.2.2.1) (L := h.2.2.2.2) d hd G e
def oX_byPart (h : xH) (a1 : Int32) (a2 : Int32) : Option (Int32 × xH) := Option.map (fun q => (q, h)) (mX11_byPart h.2.2.1 h.2.2.2.1 h.2.2.2.2 a1 a2)
theorem koX_byPart {E : xE} {B : Nat} {h h2 : xH} {a1 : Int32} {a2 : Int32} {r : Int32} (d : Nat) (hd : 4 ≤ d) (G : GW h.2.1 h.2.2.1) (hm : oX_byPart h a1 a2 = some (r, h2)) : MX E B d 0 0 yX11_byPart cX11_byPart 3 (some .int) [.ref 1, .int a1, .int a2] h (some (.int r), h2) := by
  unfold oX_byPart at hm
  obtain ⟨q, e, hq⟩ := Option.map_eq_some_iff.mp hm
  cases hq
  exact kX11_byPart (n := h.1) (K := h.2.1) (P := h.2.2.1) (I := h.2.2.2.1) (L := h.2.2.2.2) d hd G e
def oM_byPart (h : xH) (a1 : Int32) (a2 : Int32) : Option (Int32 × xH) := Option.map (fun q => (q.1, (h.1, h.2.1, h.2.2.1, q.2, h.2.2.2.2))) (mX12_byPart h.2.2.2.1 a1 a2)
theorem koM_byPart {E : xE} {B : Nat} {h h2 : xH} {a1 : Int32} {a2 : Int32} {r : Int32} (d : Nat) (hd : 3 ≤ d) (G : GW h.2.1 h.2.2.1) (hm : oM_byPart h a1 a2 = some (r, h2)) : MX E B d 0 0 yX12_byPart cX12_byPart 3 (some .int) [.ref 123, .int a1, .int a2] h (some (.int r), h2) := by
  unfold oM_byPart at hm
  obtain ⟨q, e, hq⟩ := Option.map_eq_some_iff.mp hm
  cases hq
  exact kX12_byPart (n := h.1) (K := h.2.1) (P := h.2.2.1) (I := h.2.2.2.1) (L := h.2.2.2.2) d hd G e
def oX_one (h : xH)  : Option (Int32 × xH) := Option.map (fun q => (q.1, (h.1, h.2.1, h.2.2.1, q.2.1, q.2.2))) (mX11_one h.2.1 h.2.2.1 h.2.2.2.1 h.2.2.2.2 )
theorem koX_one {E : xE} {B : Nat} {h h2 : xH}  {r : Int32} (d : Nat) (hd : 6 ≤ d) (G : GW h.2.1 h.2.2.1) (hm : oX_one h  = some (r, h2)) : MX E B d 0 0 yX11_one cX11_one 2 (some .int) [.ref 1] h (some (.int r), h2) := by
  unfold oX_one at hm
  obtain ⟨q, e, hq⟩ := Option.map_eq_some_iff.mp hm
  cases hq
  exact kX11_one (n := h.1) (K := h.2.1) (P := h.2.2.1) (I := h.2.2.2.1) (L := h.2.2.2.2) d hd G e
def oM_one (h : xH)  : Option (Int32 × xH) := Option.map (fun q => (q.1, (h.1, h.2.1, h.2.2.1, q.2.1, q.2.2))) (mX12_one h.2.2.2.1 h.2.2.2.2 )
theorem koM_one {E : xE} {B : Nat} {h h2 : xH}  {r : Int32} (d : Nat) (hd : 8 ≤ d) (G : GW h.2.1 h.2.2.1) (hm : oM_one h  = some (r, h2)) : MX E B d 0 0 yX12_one cX12_one 3 (some .int) [.ref 123] h (some (.int r), h2) := by
  unfold oM_one at hm
  obtain ⟨q, e, hq⟩ := Option.map_eq_some_iff.mp hm
  cases hq
  exact kX12_one (n := h.1) (K := h.2.1) (P := h.2.2.1) (I := h.2.2.2.1) (L := h.2.2.2.2) d hd G e
def oX_log (h : xH) (a1 : Int32) (a2 : Int32) (a3 : Int32) : Option (Int32 × xH) := Option.map (fun q => (q.1, (h.1, h.2.1, h.2.2.1, q.2, h.2.2.2.2))) (mX11_log h.2.2.1 h.2.2.2.1 a1 a2 a3)
theorem koX_log {E : xE} {B : Nat} {h h2 : xH} {a1 : Int32} {a2 : Int32} {a3 : Int32} {r : Int32} (d : Nat) (hd : 1 ≤ d) (G : GW h.2.1 h.2.2.1) (hm : oX_log h a1 a2 a3 = some (r, h2)) : MX E B d 0 0 yX11_log cX11_log 4 (some .int) [.ref 1, .int a1, .int a2, .int a3] h (some (.int r), h2) := by
  unfold oX_log at hm
  obtain ⟨q, e, hq⟩ := Option.map_eq_some_iff.mp hm
  cases hq
  exact kX11_log (n := h.1) (K := h.2.1) (P := h.2.2.1) (I := h.2.2.2.1) (L := h.2.2.2.2) d hd G e
def oM_log (h : xH) (a1 : Int32) (a2 : Int32) (a3 : Int32) : Option (Int32 × xH) := Option.map (fun q => (q.1, (h.1, h.2.1, h.2.2.1, q.2, h.2.2.2.2))) (mX12_log h.2.2.2.1 a1 a2 a3)
theorem koM_log {E : xE} {B : Nat} {h h2 : xH} {a1 : Int32} {a2 : Int32} {a3 : Int32} {r : Int32} (d : Nat) (hd : 2 ≤ d) (G : GW h.2.1 h.2.2.1) (hm : oM_log h a1 a2 a3 = some (r, h2)) : MX E B d 0 0 yX12_log cX12_log 5 (some .int) [.ref 123, .int a1, .int a2, .int a3] h (some (.int r), h2) := by
  unfold oM_log at hm
  obtain ⟨q, e, hq⟩ := Option.map_eq_some_iff.mp hm
  cases hq
  exact kX12_log (n := h.1) (K := h.2.1) (P := h.2.2.1) (I := h.2.2.2.1) (L := h.2.2.2.2) d hd G e
def oX_ruled (h : xH) (a1 : Int32) : Option (Int32 × xH) := Option.map (fun q => (q.1, (h.1, h.2.1, h.2.2.1, q.2.1, q.2.2))) (mX11_ruled h.2.1 h.2.2.1 h.2.2.2.1 h.2.2.2.2 a1)
theorem koX_ruled {E : xE} {B : Nat} {h h2 : xH} {a1 : Int32} {r : Int32} (d : Nat) (hd : 7 ≤ d) (G : GW h.2.1 h.2.2.1) (hm : oX_ruled h a1 = some (r, h2)) : MX E B d 0 0 yX11_ruled cX11_ruled 5 (some .int) [.ref 1, .int a1] h (some (.int r), h2) := by
  unfold oX_ruled at hm
  obtain ⟨q, e, hq⟩ := Option.map_eq_some_iff.mp hm
  cases hq
  exact kX11_ruled (n := h.1) (K := h.2.1) (P := h.2.2.1) (I := h.2.2.2.1) (L := h.2.2.2.2) d hd G e
def oM_ruled (h : xH) (a1 : Int32) : Option (Int32 × xH) := Option.map (fun q => (q.1, (h.1, h.2.1, h.2.2.1, q.2.1, q.2.2))) (mX12_ruled h.2.2.2.1 h.2.2.2.2 a1)
theorem koM_ruled {E : xE} {B : Nat} {h h2 : xH} {a1 : Int32} {r : Int32} (d : Nat) (hd : 9 ≤ d) (G : GW h.2.1 h.2.2.1) (hm : oM_ruled h a1 = some (r, h2)) : MX E B d 0 0 yX12_ruled cX12_ruled 5 (some .int) [.ref 123, .int a1] h (some (.int r), h2) := by
  unfold oM_ruled at hm
  obtain ⟨q, e, hq⟩ := Option.map_eq_some_iff.mp hm
  cases hq
  exact kX12_ruled (n := h.1) (K := h.2.1) (P := h.2.2.1) (I := h.2.2.2.1) (L := h.2.2.2.2) d hd G e
def oX_look (h : xH) (a1 : Int32) (a2 : Int32) : Option (Int32 × xH) := Option.map (fun q => (q.1, (h.1, h.2.1, h.2.2.1, q.2.1, q.2.2))) (mX11_look h.2.1 h.2.2.1 h.2.2.2.1 h.2.2.2.2 a1 a2)
theorem koX_look {E : xE} {B : Nat} {h h2 : xH} {a1 : Int32} {a2 : Int32} {r : Int32} (d : Nat) (hd : 7 ≤ d) (G : GW h.2.1 h.2.2.1) (hm : oX_look h a1 a2 = some (r, h2)) : MX E B d 0 0 yX11_look cX11_look 8 (some .int) [.ref 1, .int a1, .int a2] h (some (.int r), h2) := by
  unfold oX_look at hm
  obtain ⟨q, e, hq⟩ := Option.map_eq_some_iff.mp hm
  cases hq
  exact kX11_look (n := h.1) (K := h.2.1) (P := h.2.2.1) (I := h.2.2.2.1) (L := h.2.2.2.2) d hd G e
def oM_look (h : xH) (a1 : Int32) (a2 : Int32) : Option (Int32 × xH) := Option.map (fun q => (q.1, (h.1, h.2.1, h.2.2.1, q.2.1, q.2.2))) (mX12_look h.2.2.2.1 h.2.2.2.2 a1 a2)
theorem koM_look {E : xE} {B : Nat} {h h2 : xH} {a1 : Int32} {a2 : Int32} {r : Int32} (d : Nat) (hd : 9 ≤ d) (G : GW h.2.1 h.2.2.1) (hm : oM_look h a1 a2 = some (r, h2)) : MX E B d 0 0 yX12_look cX12_look 9 (some .int) [.ref 123, .int a1, .int a2] h (some (.int r), h2) := by
  unfold oM_look at hm
  obtain ⟨q, e, hq⟩ := Option.map_eq_some_iff.mp hm
  cases hq
  exact kX12_look (n := h.1) (K := h.2.1) (P := h.2.2.1) (I := h.2.2.2.1) (L := h.2.2.2.2) d hd G e
def oX_worth (h : xH) (a1 : Int32) (a2 : Int32) (a3 : Int32) : Option (Int32 × xH) := Option.map (fun q => (q.1, (h.1, h.2.1, h.2.2.1, q.2.1, q.2.2))) (mX11_worth h.2.1 h.2.2.1 h.2.2.2.1 h.2.2.2.2 a1 a2 a3)
theorem koX_worth {E : xE} {B : Nat} {h h2 : xH} {a1 : Int32} {a2 : Int32} {a3 : Int32} {r : Int32} (d : Nat) (hd : 7 ≤ d) (G : GW h.2.1 h.2.2.1) (hm : oX_worth h a1 a2 a3 = some (r, h2)) : MX E B d 0 0 yX11_worth cX11_worth 5 (some .int) [.ref 1, .int a1, .int a2, .int a3] h (some (.int r), h2) := by
  unfold oX_worth at hm
  obtain ⟨q, e, hq⟩ := Option.map_eq_some_iff.mp hm
  cases hq
  exact kX11_worth (n := h.1) (K := h.2.1) (P := h.2.2.1) (I := h.2.2.2.1) (L := h.2.2.2.2) d hd G e
def oM_worth (h : xH) (a1 : Int32) (a2 : Int32) (a3 : Int32) : Option (Int32 × xH) := Option.map (fun q => (q.1, (h.1, h.2.1, h.2.2.1, q.2.1, q.2.2))) (mX12_worth h.2.2.2.1 h.2.2.2.2 a1 a2 a3)
theorem koM_worth {E : xE} {B : Nat} {h h2 : xH} {a1 : Int32} {a2 : Int32} {a3 : Int32} {r : Int32} (d : Nat) (hd : 8 ≤ d) (G : GW h.2.1 h.2.2.1) (hm : oM_worth h a1 a2 a3 = some (r, h2)) : MX E B d 0 0 yX12_worth cX12_worth 5 (some .int) [.ref 123, .int a1, .int a2, .int a3] h (some (.int r), h2) := by
  unfold oM_worth at hm
  obtain ⟨q, e, hq⟩ := Option.map_eq_some_iff.mp hm
  cases hq
  exact kX12_worth (n := h.1) (K := h.2.1) (P := h.2.2.1) (I := h.2.2.2.1) (L := h.2.2.2.2) d hd G e
def oX_seed (h : xH) (a1 : Int32) : Option (Int32 × xH) := Option.map (fun q => (q.1, (h.1, h.2.1, h.2.2.1, q.2, h.2.2.2.2))) (mX11_seed h.2.2.2.1 a1)
theorem koX_seed {E : xE} {B : Nat} {h h2 : xH} {a1 : Int32} {r : Int32} (d : Nat) (hd : 0 ≤ d) (G : GW h.2.1 h.2.2.1) (hm : oX_seed h a1 = some (r, h2)) : MX E B d 0 0 yX11_seed cX11_seed 3 (some .int) [.ref 1, .int a1] h (some (.int r), h2) := by
  unfold oX_seed at hm
  obtain ⟨q, e, hq⟩ := Option.map_eq_some_iff.mp hm
  cases hq
  exact kX11_seed (n := h.1) (K := h.2.1) (P := h.2.2.1) (I := h.2.2.2.1) (L := h.2.2.2.2) d hd G e
def oM_seed (h : xH) (a1 : Int32) : Option (Int32 × xH) := Option.map (fun q => (q.1, (h.1, h.2.1, h.2.2.1, q.2, h.2.2.2.2))) (mX12_seed h.2.2.2.1 a1)
theorem koM_seed {E : xE} {B : Nat} {h h2 : xH} {a1 : Int32} {r : Int32} (d : Nat) (hd : 0 ≤ d) (G : GW h.2.1 h.2.2.1) (hm : oM_seed h a1 = some (r, h2)) : MX E B d 0 0 yX12_seed cX12_seed 3 (some .int) [.ref 123, .int a1] h (some (.int r), h2) := by
  unfold oM_seed at hm
  obtain ⟨q, e, hq⟩ := Option.map_eq_some_iff.mp hm
  cases hq
  exact kX12_seed (n := h.1) (K := h.2.1) (P := h.2.2.1) (I := h.2.2.2.1) (L := h.2.2.2.2) d hd G e
def oX_years (h : xH) (a1 : Int32) (a2 : Int32) (a3 : Int32) : Option (Int32 × xH) := Option.map (fun q => (q.1, (h.1, h.2.1, h.2.2.1, q.2.1, q.2.2))) (mX11_years h.2.2.1 h.2.2.2.1 h.2.2.2.2 a1 a2 a3)
theorem koX_years {E : xE} {B : Nat} {h h2 : xH} {a1 : Int32} {a2 : Int32} {a3 : Int32} {r : Int32} (d : Nat) (hd : 6 ≤ d) (G : GW h.2.1 h.2.2.1) (hm : oX_years h a1 a2 a3 = some (r, h2)) : MX E B d 0 0 yX11_years cX11_years 7 (some .int) [.ref 1, .int a1, .int a2, .int a3] h (some (.int r), h2) := by
  unfold oX_years at hm
  obtain ⟨q, e, hq⟩ := Option.map_eq_some_iff.mp hm
  cases hq
  exact kX11_years (n := h.1) (K := h.2.1) (P := h.2.2.1) (I := h.2.2.2.1) (L := h.2.2.2.2) d hd G e
def oM_years (h : xH) (a1 : Int32) (a2 : Int32) (a3 : Int32) : Option (Int32 × xH) := Option.map (fun q => (q.1, (h.1, h.2.1, h.2.2.1, q.2, h.2.2.2.2))) (mX12_years h.2.2.2.1 a1 a2 a3)
theorem koM_years {E : xE} {B : Nat} {h h2 : xH} {a1 : Int32} {a2 : Int32} {a3 : Int32} {r : Int32} (d : Nat) (hd : 5 ≤ d) (G : GW h.2.1 h.2.2.1) (hm : oM_years h a1 a2 a3 = some (r, h2)) : MX E B d 0 0 yX12_years cX12_years 9 (some .int) [.ref 123, .int a1, .int a2, .int a3] h (some (.int r), h2) := by
  unfold oM_years at hm
  obtain ⟨q, e, hq⟩ := Option.map_eq_some_iff.mp hm
  cases hq
  exact kX12_years (n := h.1) (K := h.2.1) (P := h.2.2.1) (I := h.2.2.2.1) (L := h.2.2.2.2) d hd G e
def oX_count (h : xH) (a1 : Int32) : Option (Int32 × xH) := Option.map (fun q => (q, h)) (mX11_count h.2.2.1 h.2.2.2.1 h.2.2.2.2 a1)
theorem koX_count {E : xE} {B : Nat} {h h2 : xH} {a1 : Int32} {r : Int32} (d : Nat) (hd : 3 ≤ d) (G : GW h.2.1 h.2.2.1) (hm : oX_count h a1 = some (r, h2)) : MX E B d 0 0 yX11_count cX11_count 2 (some .int) [.ref 1, .int a1] h (some (.int r), h2) := by
  unfold oX_count at hm
  obtain ⟨q, e, hq⟩ := Option.map_eq_some_iff.mp hm
  cases hq
  exact kX11_count (n := h.1) (K := h.2.1) (P := h.2.2.1) (I := h.2.2.2.1) (L := h.2.2.2.2) d hd G e
def oM_count (h : xH) (a1 : Int32) : Option (Int32 × xH) := Option.map (fun q => (q, h)) (mX12_count h.2.2.2.1 a1)
theorem koM_count {E : xE} {B : Nat} {h h2 : xH} {a1 : Int32} {r : Int32} (d : Nat) (hd : 3 ≤ d) (G : GW h.2.1 h.2.2.1) (hm : oM_count h a1 = some (r, h2)) : MX E B d 0 0 yX12_count cX12_count 2 (some .int) [.ref 123, .int a1] h (some (.int r), h2) := by
  unfold oM_count at hm
  obtain ⟨q, e, hq⟩ := Option.map_eq_some_iff.mp hm
  cases hq
  exact kX12_count (n := h.1) (K := h.2.1) (P := h.2.2.1) (I := h.2.2.2.1) (L := h.2.2.2.2) d hd G e
def oX_image (h : xH) (a1 : Int32) : Option (Int32 × xH) := mX11_image h a1
def oM_image (h : xH) (a1 : Int32) : Option (Int32 × xH) := Option.map (fun q => (q.1, (h.1, h.2.1, h.2.2.1, q.2, h.2.2.2.2))) (mX12_image h.2.2.2.1 a1)
theorem koM_image {E : xE} {B : Nat} {h h2 : xH} {a1 : Int32} {r : Int32} (d : Nat) (hd : 2 ≤ d) (G : GW h.2.1 h.2.2.1) (hm : oM_image h a1 = some (r, h2)) : MX E B d 0 0 yX12_image cX12_image 2 (some .int) [.ref 123, .int a1] h (some (.int r), h2) := by
  unfold oM_image at hm
  obtain ⟨q, e, hq⟩ := Option.map_eq_some_iff.mp hm
  cases hq
  exact kX12_image (n := h.1) (K := h.2.1) (P := h.2.2.1) (I := h.2.2.2.1) (L := h.2.2.2.2) d hd G e
def oX_back (h : xH) (a1 : Int32) : Option (Int32 × xH) := Option.map (fun q => (q.1, (h.1, h.2.1, q.2.1, q.2.2.1, q.2.2.2))) (mX11_back h.2.2.1 h.2.2.2.1 h.2.2.2.2 a1)
theorem koX_back {E : xE} {B : Nat} {h h2 : xH} {a1 : Int32} {r : Int32} (d : Nat) (hd : 3 ≤ d) (G : GW h.2.1 h.2.2.1) (hm : oX_back h a1 = some (r, h2)) : MX E B d 0 0 yX11_back cX11_back 2 (some .int) [.ref 1, .int a1] h (some (.int r), h2) := by
  unfold oX_back at hm
  obtain ⟨q, e, hq⟩ := Option.map_eq_some_iff.mp hm
  cases hq
  exact kX11_back (n := h.1) (K := h.2.1) (P := h.2.2.1) (I := h.2.2.2.1) (L := h.2.2.2.2) d hd G e
def oM_back (h : xH) (a1 : Int32) : Option (Int32 × xH) := Option.map (fun q => (q.1, (h.1, h.2.1, h.2.2.1, q.2, h.2.2.2.2))) (mX12_back h.2.2.2.1 a1)
theorem koM_back {E : xE} {B : Nat} {h h2 : xH} {a1 : Int32} {r : Int32} (d : Nat) (hd : 2 ≤ d) (G : GW h.2.1 h.2.2.1) (hm : oM_back h a1 = some (r, h2)) : MX E B d 0 0 yX12_back cX12_back 2 (some .int) [.ref 123, .int a1] h (some (.int r), h2) := by
  unfold oM_back at hm
  obtain ⟨q, e, hq⟩ := Option.map_eq_some_iff.mp hm
  cases hq
  exact kX12_back (n := h.1) (K := h.2.1) (P := h.2.2.1) (I := h.2.2.2.1) (L := h.2.2.2.2) d hd G e
def st_feed (Inv Jnv : xH → Prop) : Prop := ∀ (h : xH) (a1 : Int32) (a2 : Int32) (a3 : Int32) (a4 : Int32) (a5 : Int32), Inv h → ∃ r h1 h2, oX_feed h a1 a2 a3 a4 a5 = some (r, h1) ∧ GW h1.2.1 h1.2.2.1 ∧ oM_feed h1 a1 a2 a3 a4 a5 = some (r, h2) ∧ Jnv h2
def st_end (Inv Jnv : xH → Prop) : Prop := ∀ (h : xH) (a1 : Int32), Inv h → ∃ r h1 h2, oX_end h a1 = some (r, h1) ∧ GW h1.2.1 h1.2.2.1 ∧ oM_end h1 a1 = some (r, h2) ∧ Jnv h2
def st_street (Inv Jnv : xH → Prop) : Prop := ∀ (h : xH) , Inv h → ∃ r h1 h2, oX_street h  = some (r, h1) ∧ GW h1.2.1 h1.2.2.1 ∧ oM_street h1  = some (r, h2) ∧ Jnv h2
def st_rule (Inv Jnv : xH → Prop) : Prop := ∀ (h : xH) , Inv h → ∃ r h1 h2, oX_rule h  = some (r, h1) ∧ GW h1.2.1 h1.2.2.1 ∧ oM_rule h1  = some (r, h2) ∧ Jnv h2
def st_force (Inv Jnv : xH → Prop) : Prop := ∀ (h : xH) (a1 : Int32), Inv h → ∃ r h1 h2, oX_force h a1 = some (r, h1) ∧ GW h1.2.1 h1.2.2.1 ∧ oM_force h1 a1 = some (r, h2) ∧ Jnv h2
def st_cell (Inv Jnv : xH → Prop) : Prop := ∀ (h : xH) (a1 : Int32) (a2 : Int32), Inv h → ∃ r h1 h2, oX_cell h a1 a2 = some (r, h1) ∧ GW h1.2.1 h1.2.2.1 ∧ oM_cell h1 a1 a2 = some (r, h2) ∧ Jnv h2
def st_coat (Inv Jnv : xH → Prop) : Prop := ∀ (h : xH) (a1 : Int32) (a2 : Int32) (a3 : Int32), Inv h → ∃ r h1 h2, oX_coat h a1 a2 a3 = some (r, h1) ∧ GW h1.2.1 h1.2.2.1 ∧ oM_coat h1 a1 a2 a3 = some (r, h2) ∧ Jnv h2
def st_thing (Inv Jnv : xH → Prop) : Prop := ∀ (h : xH) (a1 : Int32) (a2 : Int32), Inv h → ∃ r h1 h2, oX_thing h a1 a2 = some (r, h1) ∧ GW h1.2.1 h1.2.2.1 ∧ oM_thing h1 a1 a2 = some (r, h2) ∧ Jnv h2
def st_painter (Inv Jnv : xH → Prop) : Prop := ∀ (h : xH) (a1 : Int32) (a2 : Int32), Inv h → ∃ r h1 h2, oX_painter h a1 a2 = some (r, h1) ∧ GW h1.2.1 h1.2.2.1 ∧ oM_painter h1 a1 a2 = some (r, h2) ∧ Jnv h2
def st_rain (Inv Jnv : xH → Prop) : Prop := ∀ (h : xH) (a1 : Int32), Inv h → ∃ r h1 h2, oX_rain h a1 = some (r, h1) ∧ GW h1.2.1 h1.2.2.1 ∧ oM_rain h1 a1 = some (r, h2) ∧ Jnv h2
def st_hour (Inv Jnv : xH → Prop) : Prop := ∀ (h : xH) , Inv h → ∃ r h1 h2, oX_hour h  = some (r, h1) ∧ GW h1.2.1 h1.2.2.1 ∧ oM_hour h1  = some (r, h2) ∧ Jnv h2
def st_paint (Inv Jnv : xH → Prop) : Prop := ∀ (h : xH) (a1 : Int32) (a2 : Int32), Inv h → ∃ r h1 h2, oX_paint h a1 a2 = some (r, h1) ∧ GW h1.2.1 h1.2.2.1 ∧ oM_paint h1 a1 a2 = some (r, h2) ∧ Jnv h2
def st_scrape (Inv Jnv : xH → Prop) : Prop := ∀ (h : xH) (a1 : Int32), Inv h → ∃ r h1 h2, oX_scrape h a1 = some (r, h1) ∧ GW h1.2.1 h1.2.2.1 ∧ oM_scrape h1 a1 = some (r, h2) ∧ Jnv h2
def st_vote (Inv Jnv : xH → Prop) : Prop := ∀ (h : xH) (a1 : Int32), Inv h → ∃ r h1 h2, oX_vote h a1 = some (r, h1) ∧ GW h1.2.1 h1.2.2.1 ∧ oM_vote h1 a1 = some (r, h2) ∧ Jnv h2
def st_undo (Inv Jnv : xH → Prop) : Prop := ∀ (h : xH) , Inv h → ∃ r h1 h2, oX_undo h  = some (r, h1) ∧ GW h1.2.1 h1.2.2.1 ∧ oM_undo h1  = some (r, h2) ∧ Jnv h2
def st_ahead (Inv Jnv : xH → Prop) : Prop := ∀ (h : xH) (a1 : Int32) (a2 : Int32) (a3 : Int32), Inv h → ∃ r h1 h2, oX_ahead h a1 a2 a3 = some (r, h1) ∧ GW h1.2.1 h1.2.2.1 ∧ oM_ahead h1 a1 a2 a3 = some (r, h2) ∧ Jnv h2
def st_rents (Inv Jnv : xH → Prop) : Prop := ∀ (h : xH) (a1 : Int32) (a2 : Int32), Inv h → ∃ r h1 h2, oX_rents h a1 a2 = some (r, h1) ∧ GW h1.2.1 h1.2.2.1 ∧ oM_rents h1 a1 a2 = some (r, h2) ∧ Jnv h2
def st_least (Inv Jnv : xH → Prop) : Prop := ∀ (h : xH) (a1 : Int32) (a2 : Int32) (a3 : Int32) (a4 : Int32), Inv h → ∃ r h1 h2, oX_least h a1 a2 a3 a4 = some (r, h1) ∧ GW h1.2.1 h1.2.2.1 ∧ oM_least h1 a1 a2 a3 a4 = some (r, h2) ∧ Jnv h2
def st_fewest (Inv Jnv : xH → Prop) : Prop := ∀ (h : xH) (a1 : Int32) (a2 : Int32) (a3 : Int32), Inv h → ∃ r h1 h2, oX_fewest h a1 a2 a3 = some (r, h1) ∧ GW h1.2.1 h1.2.2.1 ∧ oM_fewest h1 a1 a2 a3 = some (r, h2) ∧ Jnv h2
def st_when (Inv Jnv : xH → Prop) : Prop := ∀ (h : xH) , Inv h → ∃ r h1 h2, oX_when h  = some (r, h1) ∧ GW h1.2.1 h1.2.2.1 ∧ oM_when h1  = some (r, h2) ∧ Jnv h2
def st_game (Inv Jnv : xH → Prop) : Prop := ∀ (h : xH) (a1 : Int32) (a2 : Int32) (a3 : Int32) (a4 : Int32) (a5 : Int32), Inv h → ∃ r h1 h2, oX_game h a1 a2 a3 a4 a5 = some (r, h1) ∧ GW h1.2.1 h1.2.2.1 ∧ oM_game h1 a1 a2 a3 a4 a5 = some (r, h2) ∧ Jnv h2
def st_share (Inv Jnv : xH → Prop) : Prop := ∀ (h : xH) (a1 : Int32) (a2 : Int32) (a3 : Int32), Inv h → ∃ r h1 h2, oX_share h a1 a2 a3 = some (r, h1) ∧ GW h1.2.1 h1.2.2.1 ∧ oM_share h1 a1 a2 a3 = some (r, h2) ∧ Jnv h2
def st_then (Inv Jnv : xH → Prop) : Prop := ∀ (h : xH) (a1 : Int32) (a2 : Int32), Inv h → ∃ r h1 h2, oX_then h a1 a2 = some (r, h1) ∧ GW h1.2.1 h1.2.2.1 ∧ oM_then h1 a1 a2 = some (r, h2) ∧ Jnv h2
def st_byPart (Inv Jnv : xH → Prop) : Prop := ∀ (h : xH) (a1 : Int32) (a2 : Int32), Inv h → ∃ r h1 h2, oX_byPart h a1 a2 = some (r, h1) ∧ GW h1.2.1 h1.2.2.1 ∧ oM_byPart h1 a1 a2 = some (r, h2) ∧ Jnv h2
def st_one (Inv Jnv : xH → Prop) : Prop := ∀ (h : xH) , Inv h → ∃ r h1 h2, oX_one h  = some (r, h1) ∧ GW h1.2.1 h1.2.2.1 ∧ oM_one h1  = some (r, h2) ∧ Jnv h2
def st_log (Inv Jnv : xH → Prop) : Prop := ∀ (h : xH) (a1 : Int32) (a2 : Int32) (a3 : Int32), Inv h → ∃ r h1 h2, oX_log h a1 a2 a3 = some (r, h1) ∧ GW h1.2.1 h1.2.2.1 ∧ oM_log h1 a1 a2 a3 = some (r, h2) ∧ Jnv h2
def st_ruled (Inv Jnv : xH → Prop) : Prop := ∀ (h : xH) (a1 : Int32), Inv h → ∃ r h1 h2, oX_ruled h a1 = some (r, h1) ∧ GW h1.2.1 h1.2.2.1 ∧ oM_ruled h1 a1 = some (r, h2) ∧ Jnv h2
def st_look (Inv Jnv : xH → Prop) : Prop := ∀ (h : xH) (a1 : Int32) (a2 : Int32), Inv h → ∃ r h1 h2, oX_look h a1 a2 = some (r, h1) ∧ GW h1.2.1 h1.2.2.1 ∧ oM_look h1 a1 a2 = some (r, h2) ∧ Jnv h2
def st_worth (Inv Jnv : xH → Prop) : Prop := ∀ (h : xH) (a1 : Int32) (a2 : Int32) (a3 : Int32), Inv h → ∃ r h1 h2, oX_worth h a1 a2 a3 = some (r, h1) ∧ GW h1.2.1 h1.2.2.1 ∧ oM_worth h1 a1 a2 a3 = some (r, h2) ∧ Jnv h2
def st_seed (Inv Jnv : xH → Prop) : Prop := ∀ (h : xH) (a1 : Int32), Inv h → ∃ r h1 h2, oX_seed h a1 = some (r, h1) ∧ GW h1.2.1 h1.2.2.1 ∧ oM_seed h1 a1 = some (r, h2) ∧ Jnv h2
def st_years (Inv Jnv : xH → Prop) : Prop := ∀ (h : xH) (a1 : Int32) (a2 : Int32) (a3 : Int32), Inv h → ∃ r h1 h2, oX_years h a1 a2 a3 = some (r, h1) ∧ GW h1.2.1 h1.2.2.1 ∧ oM_years h1 a1 a2 a3 = some (r, h2) ∧ Jnv h2
def st_count (Inv Jnv : xH → Prop) : Prop := ∀ (h : xH) (a1 : Int32), Inv h → ∃ r h1 h2, oX_count h a1 = some (r, h1) ∧ GW h1.2.1 h1.2.2.1 ∧ oM_count h1 a1 = some (r, h2) ∧ Jnv h2
def st_image (Inv Jnv : xH → Prop) : Prop := ∀ (h : xH) (a1 : Int32), Inv h → ∃ r h1 h2, oX_image h a1 = some (r, h1) ∧ GW h1.2.1 h1.2.2.1 ∧ oM_image h1 a1 = some (r, h2) ∧ Jnv h2
def st_back (Inv Jnv : xH → Prop) : Prop := ∀ (h : xH) (a1 : Int32), Inv h → ∃ r h1 h2, oX_back h a1 = some (r, h1) ∧ GW h1.2.1 h1.2.2.1 ∧ oM_back h1 a1 = some (r, h2) ∧ Jnv h2
def stAll (Inv Jnv : xH → Prop) : Prop := st_feed Inv Jnv ∧ st_end Inv Jnv ∧ st_street Inv Jnv ∧ st_rule Inv Jnv ∧ st_force Inv Jnv ∧ st_cell Inv Jnv ∧ st_coat Inv Jnv ∧ st_thing Inv Jnv ∧ st_painter Inv Jnv ∧ st_rain Inv Jnv ∧ st_hour Inv Jnv ∧ st_paint Inv Jnv ∧ st_scrape Inv Jnv ∧ st_vote Inv Jnv ∧ st_undo Inv Jnv ∧ st_ahead Inv Jnv ∧ st_rents Inv Jnv ∧ st_least Inv Jnv ∧ st_fewest Inv Jnv ∧ st_when Inv Jnv ∧ st_game Inv Jnv ∧ st_share Inv Jnv ∧ st_then Inv Jnv ∧ st_byPart Inv Jnv ∧ st_one Inv Jnv ∧ st_log Inv Jnv ∧ st_ruled Inv Jnv ∧ st_look Inv Jnv ∧ st_worth Inv Jnv ∧ st_seed Inv Jnv ∧ st_years Inv Jnv ∧ st_count Inv Jnv ∧ st_image Inv Jnv ∧ st_back Inv Jnv
theorem X_xAtJ {E : xE} {B d mc ms : Nat} {y : MethodName} {cc : ByteArray} {maxL : Nat} {ret : Option FieldType} {r : Option Value × xH} {pc : Nat} {lv : List (Nat × Value)} {st : List Value} {u w : Nat} {h : xH} {i : Int32} {j : Nat} (hin : inb i E.2.2.2.2.2.2.1 = true) (hj : ix i = j) (hd : decode cc pc = .ok (.iaload, 1)) (kk : X E B d mc ms y cc maxL ret r (pc + 1) lv (.int (E.2.2.2.2.2.2.2 j) :: st) u w h) : X E B d mc ms y cc maxL ret r pc lv (.int i :: .retAddr 1000 :: st) u w h := by
  subst hj
  exact X_xAt hin hd kk
theorem inb_of {n N : Nat} (h : n < N) (hN : N < 2 ^ 31) : inb (nI n) N = true := by
  have := vp_in_nI h hN
  rw [vp_in_iff] at this
  simp only [inb, Bool.and_eq_true, decide_eq_true_eq]
  exact this
set_option maxHeartbeats 4000000 in
set_option maxRecDepth 100000 in
theorem law_loop {E : xE} {B : Nat} {nm : String} (hL : E.2.2.2.2.2.2.1 ≤ 3072) {Inv : Nat → xH → Prop} (hG : ∀ k h, Inv k h → GW h.2.1 h.2.2.1 ∧ Fr h) (hM : ∀ k h, Inv k h → Inv (k + 1) h) (hst : ∀ k, k < 512 → stAll (Inv k) (Inv (k + 1))) : ∀ (m k : Nat) (h : xH), E.2.2.2.2.2.2.1 < 6 * (k + m) → k ≤ 512 → Inv k h → ∃ hf, X E B 1300 600000 7302250 ⟨RL, nm, "([I)Z"⟩ cL_law 4 (some .boolean) (some (.int 1), hf) 18 [(0, .retAddr 1000), (1, .ref 1), (2, .ref 123), (3, .int (nI (6 * k)))] [] (171 + 79 * k) (32674 + 647 * k) h := by
  intro m
  induction m with
  | zero =>
    intro k h hk hk2 hI
    refine ⟨h, ?_⟩
    refine X_iload_n 3 dL_law_18 rfl rfl ?_
    refine X_aload_n 0 dL_law_19 rfl rfl rfl ?_
    refine X_xLen dL_law_20 ?_
    refine X_bipush (v := (6 : Int32)) dL_law_21 (by decide) ?_
    refine X_isub dL_law_23 ?_
    have hlt := law_lt (a := 6 * k) (n := E.2.2.2.2.2.2.1) (by omega) (by omega)
    refine X_icmp_gt (tgt := 1242) dL_law_24 (by decide) (fun _ => ?_) (fun c => absurd (hlt.mpr (by omega)) c)
    refine X_iconst (v := (1 : Int32)) dL_law_1242 (by decide) ?_
    refine X_widen (u2 := 600000) (w2 := 7302250) (by omega) (by omega) ?_
    exact X_zret dL_law_1243 rfl (x_nz (Or.inr rfl))
  | succ m ih =>
    intro k h hk hk2 hI
    have hlt := law_lt (a := 6 * k) (n := E.2.2.2.2.2.2.1) (by omega) (by omega)
    by_cases hend : E.2.2.2.2.2.2.1 < 6 * k + 6
    · refine ⟨h, ?_⟩
      refine X_iload_n 3 dL_law_18 rfl rfl ?_
      refine X_aload_n 0 dL_law_19 rfl rfl rfl ?_
      refine X_xLen dL_law_20 ?_
      refine X_bipush (v := (6 : Int32)) dL_law_21 (by decide) ?_
      refine X_isub dL_law_23 ?_
      refine X_icmp_gt (tgt := 1242) dL_law_24 (by decide) (fun _ => ?_) (fun c => absurd (hlt.mpr (by omega)) c)
      refine X_iconst (v := (1 : Int32)) dL_law_1242 (by decide) ?_
      refine X_widen (u2 := 600000) (w2 := 7302250) (by omega) (by omega) ?_
      exact X_zret dL_law_1243 rfl (x_nz (Or.inr rfl))
    · have hk3 : k + 1 ≤ 512 := by omega
      have hgf := hG k h hI
      obtain ⟨s0, s1, s2, s3, s4, s5, s6, s7, s8, s9, s10, s11, s12, s13, s14, s15, s16, s17, s18, s19, s20, s21, s22, s23, s24, s25, s26, s27, s28, s29, s30, s31, s32, s33⟩ := hst k (by omega)
      have b0 : inb (nI (6 * k)) E.2.2.2.2.2.2.1 = true := by  exact inb_of (by omega) (by omega)
      have i0 : ix (nI (6 * k)) = 6 * k := by  exact nI_clamp (by omega)
      have b1 : inb (nI (6 * k) + 1) E.2.2.2.2.2.2.1 = true := by rw [show (1 : Int32) = nI 1 from rfl, nI_add]; exact inb_of (by omega) (by omega)
      have i1 : ix (nI (6 * k) + 1) = 6 * k + 1 := by rw [show (1 : Int32) = nI 1 from rfl, nI_add]; exact nI_clamp (by omega)
      have b2 : inb (nI (6 * k) + 2) E.2.2.2.2.2.2.1 = true := by rw [show (2 : Int32) = nI 2 from rfl, nI_add]; exact inb_of (by omega) (by omega)
      have i2 : ix (nI (6 * k) + 2) = 6 * k + 2 := by rw [show (2 : Int32) = nI 2 from rfl, nI_add]; exact nI_clamp (by omega)
      have b3 : inb (nI (6 * k) + 3) E.2.2.2.2.2.2.1 = true := by rw [show (3 : Int32) = nI 3 from rfl, nI_add]; exact inb_of (by omega) (by omega)
      have i3 : ix (nI (6 * k) + 3) = 6 * k + 3 := by rw [show (3 : Int32) = nI 3 from rfl, nI_add]; exact nI_clamp (by omega)
      have b4 : inb (nI (6 * k) + 4) E.2.2.2.2.2.2.1 = true := by rw [show (4 : Int32) = nI 4 from rfl, nI_add]; exact inb_of (by omega) (by omega)
      have i4 : ix (nI (6 * k) + 4) = 6 * k + 4 := by rw [show (4 : Int32) = nI 4 from rfl, nI_add]; exact nI_clamp (by omega)
      have b5 : inb (nI (6 * k) + 5) E.2.2.2.2.2.2.1 = true := by rw [show (5 : Int32) = nI 5 from rfl, nI_add]; exact inb_of (by omega) (by omega)
      have i5 : ix (nI (6 * k) + 5) = 6 * k + 5 := by rw [show (5 : Int32) = nI 5 from rfl, nI_add]; exact nI_clamp (by omega)
      have cont : ∀ (hf h2 : xH), X E B 1300 600000 7302250 ⟨RL, nm, "([I)Z"⟩ cL_law 4 (some .boolean) (some (.int 1), hf) 18 [(0, .retAddr 1000), (1, .ref 1), (2, .ref 123), (3, .int (nI (6 * (k + 1))))] [] (171 + 79 * (k + 1)) (32674 + 647 * (k + 1)) h2 → X E B 1300 600000 7302250 ⟨RL, nm, "([I)Z"⟩ cL_law 4 (some .boolean) (some (.int 1), hf) 1236 [(0, .retAddr 1000), (1, .ref 1), (2, .ref 123), (3, .int (nI (6 * k)))] [] (171 + 79 * (k + 1)) (32674 + 647 * (k + 1)) h2 := by
        intro hf h2 hX
        refine X_iinc (lv' := [(3, .int (nI (6 * (k + 1)))), (0, .retAddr 1000), (1, .ref 1), (2, .ref 123)]) 3 dL_law_1236 rfl (by rw [show Int32.ofInt 6 = nI 6 from rfl, nI_add]; rfl) (by decide) rfl ?_
        refine X_goto (tgt := 18) dL_law_1239 (by decide) ?_
        exact X_lv [1, 2, 3, 0] rfl hX
      generalize hz : E.2.2.2.2.2.2.2 (6 * k) &&& (63 : Int32) = z
      have head : ∀ (hf : xH), X E B 1300 600000 7302250 ⟨RL, nm, "([I)Z"⟩ cL_law 4 (some .boolean) (some (.int 1), hf) 33 [(0, .retAddr 1000), (1, .ref 1), (2, .ref 123), (3, .int (nI (6 * k)))] [.int z] (171 + 79 * k) (32674 + 647 * k) h → X E B 1300 600000 7302250 ⟨RL, nm, "([I)Z"⟩ cL_law 4 (some .boolean) (some (.int 1), hf) 18 [(0, .retAddr 1000), (1, .ref 1), (2, .ref 123), (3, .int (nI (6 * k)))] [] (171 + 79 * k) (32674 + 647 * k) h := by
        intro hf hX
        refine X_iload_n 3 dL_law_18 rfl rfl ?_
        refine X_aload_n 0 dL_law_19 rfl rfl rfl ?_
        refine X_xLen dL_law_20 ?_
        refine X_bipush (v := (6 : Int32)) dL_law_21 (by decide) ?_
        refine X_isub dL_law_23 ?_
        refine X_icmp_gt (tgt := 1242) dL_law_24 (by decide) (fun c => absurd (hlt.mp c) hend) (fun _ => ?_)
        refine X_aload_n 0 dL_law_27 rfl rfl rfl ?_
        refine X_iload_n 3 dL_law_28 rfl rfl ?_
        refine X_xAtJ b0 i0 dL_law_29 ?_
        refine X_bipush (v := (63 : Int32)) dL_law_30 (by decide) ?_
        refine X_iand dL_law_32 ?_
        rw [hz]
        exact hX
      rcases Decidable.em (z = (0 : Int32)) with c0 | c0
      · obtain ⟨r, h1, h2, e1, G1, e2, I2⟩ := s0 h (E.2.2.2.2.2.2.2 (6 * k + 1)) (E.2.2.2.2.2.2.2 (6 * k + 2)) (E.2.2.2.2.2.2.2 (6 * k + 3)) (E.2.2.2.2.2.2.2 (6 * k + 4)) (E.2.2.2.2.2.2.2 (6 * k + 5)) hI
        obtain ⟨hf, hX⟩ := ih (k + 1) h2 (by omega) hk3 I2
        refine ⟨hf, head hf ?_⟩
        refine X_swK (off := 151) (tgt := 184) c0 dL_law_33 (by decide) (by decide) (by decide) (by decide) ?_
        refine X_aload_n 1 dL_law_184 rfl rfl rfl ?_
        refine X_aload_n 0 dL_law_185 rfl rfl rfl ?_
        refine X_iload_n 3 dL_law_186 rfl rfl ?_
        refine X_iconst (v := (1 : Int32)) dL_law_187 (by decide) ?_
        refine X_iadd dL_law_188 ?_
        refine X_xAtJ b1 i1 dL_law_189 ?_
        refine X_aload_n 0 dL_law_190 rfl rfl rfl ?_
        refine X_iload_n 3 dL_law_191 rfl rfl ?_
        refine X_iconst (v := (2 : Int32)) dL_law_192 (by decide) ?_
        refine X_iadd dL_law_193 ?_
        refine X_xAtJ b2 i2 dL_law_194 ?_
        refine X_aload_n 0 dL_law_195 rfl rfl rfl ?_
        refine X_iload_n 3 dL_law_196 rfl rfl ?_
        refine X_iconst (v := (3 : Int32)) dL_law_197 (by decide) ?_
        refine X_iadd dL_law_198 ?_
        refine X_xAtJ b3 i3 dL_law_199 ?_
        refine X_aload_n 0 dL_law_200 rfl rfl rfl ?_
        refine X_iload_n 3 dL_law_201 rfl rfl ?_
        refine X_iconst (v := (4 : Int32)) dL_law_202 (by decide) ?_
        refine X_iadd dL_law_203 ?_
        refine X_xAtJ b4 i4 dL_law_204 ?_
        refine X_aload_n 0 dL_law_205 rfl rfl rfl ?_
        refine X_iload_n 3 dL_law_206 rfl rfl ?_
        refine X_iconst (v := (5 : Int32)) dL_law_207 (by decide) ?_
        refine X_iadd dL_law_208 ?_
        refine X_xAtJ b5 i5 dL_law_209 ?_
        refine X_callV (ci := 10) (v := some (.int r)) (koX_feed 1299 (by decide) hgf.1 e1) ml_L_13 mi_X11_feed rfl cf_10 (g_K1 hgf.1) rfl rfl (by decide) ⟨by omega, by omega⟩ (Nat.le_of_ble_eq_true rfl) dL_law_210 ?_
        refine X_aload_n 2 dL_law_213 rfl rfl rfl ?_
        refine X_aload_n 0 dL_law_214 rfl rfl rfl ?_
        refine X_iload_n 3 dL_law_215 rfl rfl ?_
        refine X_iconst (v := (1 : Int32)) dL_law_216 (by decide) ?_
        refine X_iadd dL_law_217 ?_
        refine X_xAtJ b1 i1 dL_law_218 ?_
        refine X_aload_n 0 dL_law_219 rfl rfl rfl ?_
        refine X_iload_n 3 dL_law_220 rfl rfl ?_
        refine X_iconst (v := (2 : Int32)) dL_law_221 (by decide) ?_
        refine X_iadd dL_law_222 ?_
        refine X_xAtJ b2 i2 dL_law_223 ?_
        refine X_aload_n 0 dL_law_224 rfl rfl rfl ?_
        refine X_iload_n 3 dL_law_225 rfl rfl ?_
        refine X_iconst (v := (3 : Int32)) dL_law_226 (by decide) ?_
        refine X_iadd dL_law_227 ?_
        refine X_xAtJ b3 i3 dL_law_228 ?_
        refine X_aload_n 0 dL_law_229 rfl rfl rfl ?_
        refine X_iload_n 3 dL_law_230 rfl rfl ?_
        refine X_iconst (v := (4 : Int32)) dL_law_231 (by decide) ?_
        refine X_iadd dL_law_232 ?_
        refine X_xAtJ b4 i4 dL_law_233 ?_
        refine X_aload_n 0 dL_law_234 rfl rfl rfl ?_
        refine X_iload_n 3 dL_law_235 rfl rfl ?_
        refine X_iconst (v := (5 : Int32)) dL_law_236 (by decide) ?_
        refine X_iadd dL_law_237 ?_
        refine X_xAtJ b5 i5 dL_law_238 ?_
        refine X_callV (ci := 11) (v := some (.int r)) (koM_feed 1299 (by decide) G1 e2) ml_L_17 mi_X12_feed rfl cf_11 (g_K123 G1) rfl rfl (by decide) ⟨by omega, by omega⟩ (Nat.le_of_ble_eq_true rfl) dL_law_239 ?_
        refine X_icmp_eq (tgt := 1236) dL_law_242 (by decide) (fun _ => ?_) (fun c => absurd rfl c)
        exact X_widen (by omega) (by omega) (cont hf h2 hX)
      · skip
        rcases Decidable.em (z = (1 : Int32)) with c1 | c1
        · obtain ⟨r, h1, h2, e1, G1, e2, I2⟩ := s1 h (E.2.2.2.2.2.2.2 (6 * k + 1)) hI
          obtain ⟨hf, hX⟩ := ih (k + 1) h2 (by omega) hk3 I2
          refine ⟨hf, head hf ?_⟩
          refine X_swK (off := 214) (tgt := 247) c1 dL_law_33 (by decide) (by decide) (by decide) (by decide) ?_
          refine X_aload_n 1 dL_law_247 rfl rfl rfl ?_
          refine X_aload_n 0 dL_law_248 rfl rfl rfl ?_
          refine X_iload_n 3 dL_law_249 rfl rfl ?_
          refine X_iconst (v := (1 : Int32)) dL_law_250 (by decide) ?_
          refine X_iadd dL_law_251 ?_
          refine X_xAtJ b1 i1 dL_law_252 ?_
          refine X_callV (ci := 10) (v := some (.int r)) (koX_end 1299 (by decide) hgf.1 e1) ml_L_18 mi_X11_end rfl cf_10 (g_K1 hgf.1) rfl rfl (by decide) ⟨by omega, by omega⟩ (Nat.le_of_ble_eq_true rfl) dL_law_253 ?_
          refine X_aload_n 2 dL_law_256 rfl rfl rfl ?_
          refine X_aload_n 0 dL_law_257 rfl rfl rfl ?_
          refine X_iload_n 3 dL_law_258 rfl rfl ?_
          refine X_iconst (v := (1 : Int32)) dL_law_259 (by decide) ?_
          refine X_iadd dL_law_260 ?_
          refine X_xAtJ b1 i1 dL_law_261 ?_
          refine X_callV (ci := 11) (v := some (.int r)) (koM_end 1299 (by decide) G1 e2) ml_L_22 mi_X12_end rfl cf_11 (g_K123 G1) rfl rfl (by decide) ⟨by omega, by omega⟩ (Nat.le_of_ble_eq_true rfl) dL_law_262 ?_
          refine X_icmp_eq (tgt := 1236) dL_law_265 (by decide) (fun _ => ?_) (fun c => absurd rfl c)
          exact X_widen (by omega) (by omega) (cont hf h2 hX)
        · skip
          rcases Decidable.em (z = (2 : Int32)) with c2 | c2
          · obtain ⟨r, h1, h2, e1, G1, e2, I2⟩ := s2 h  hI
            obtain ⟨hf, hX⟩ := ih (k + 1) h2 (by omega) hk3 I2
            refine ⟨hf, head hf ?_⟩
            refine X_swK (off := 237) (tgt := 270) c2 dL_law_33 (by decide) (by decide) (by decide) (by decide) ?_
            refine X_aload_n 1 dL_law_270 rfl rfl rfl ?_
            refine X_callV (ci := 10) (v := some (.int r)) (kX11_street 1299 (by decide) hgf.1 hgf.2 e1) ml_L_23 mi_X11_street rfl cf_10 (g_K1 hgf.1) rfl rfl (by decide) ⟨by omega, by omega⟩ (Nat.le_of_ble_eq_true rfl) dL_law_271 ?_
            refine X_aload_n 2 dL_law_274 rfl rfl rfl ?_
            refine X_callV (ci := 11) (v := some (.int r)) (koM_street 1299 (by decide) G1 e2) ml_L_27 mi_X12_street rfl cf_11 (g_K123 G1) rfl rfl (by decide) ⟨by omega, by omega⟩ (Nat.le_of_ble_eq_true rfl) dL_law_275 ?_
            refine X_icmp_eq (tgt := 1236) dL_law_278 (by decide) (fun _ => ?_) (fun c => absurd rfl c)
            exact X_widen (by omega) (by omega) (cont hf h2 hX)
          · skip
            rcases Decidable.em (z = (3 : Int32)) with c3 | c3
            · obtain ⟨r, h1, h2, e1, G1, e2, I2⟩ := s3 h  hI
              obtain ⟨hf, hX⟩ := ih (k + 1) h2 (by omega) hk3 I2
              refine ⟨hf, head hf ?_⟩
              refine X_swK (off := 250) (tgt := 283) c3 dL_law_33 (by decide) (by decide) (by decide) (by decide) ?_
              refine X_aload_n 1 dL_law_283 rfl rfl rfl ?_
              refine X_callV (ci := 10) (v := some (.int r)) (kX11_rule 1299 (by decide) hgf.1 hgf.2 e1) ml_L_28 mi_X11_rule rfl cf_10 (g_K1 hgf.1) rfl rfl (by decide) ⟨by omega, by omega⟩ (Nat.le_of_ble_eq_true rfl) dL_law_284 ?_
              refine X_aload_n 2 dL_law_287 rfl rfl rfl ?_
              refine X_callV (ci := 11) (v := some (.int r)) (koM_rule 1299 (by decide) G1 e2) ml_L_31 mi_X12_rule rfl cf_11 (g_K123 G1) rfl rfl (by decide) ⟨by omega, by omega⟩ (Nat.le_of_ble_eq_true rfl) dL_law_288 ?_
              refine X_icmp_eq (tgt := 1236) dL_law_291 (by decide) (fun _ => ?_) (fun c => absurd rfl c)
              exact X_widen (by omega) (by omega) (cont hf h2 hX)
            · skip
              rcases Decidable.em (z = (4 : Int32)) with c4 | c4
              · obtain ⟨r, h1, h2, e1, G1, e2, I2⟩ := s4 h (E.2.2.2.2.2.2.2 (6 * k + 1)) hI
                obtain ⟨hf, hX⟩ := ih (k + 1) h2 (by omega) hk3 I2
                refine ⟨hf, head hf ?_⟩
                refine X_swK (off := 263) (tgt := 296) c4 dL_law_33 (by decide) (by decide) (by decide) (by decide) ?_
                refine X_aload_n 1 dL_law_296 rfl rfl rfl ?_
                refine X_aload_n 0 dL_law_297 rfl rfl rfl ?_
                refine X_iload_n 3 dL_law_298 rfl rfl ?_
                refine X_iconst (v := (1 : Int32)) dL_law_299 (by decide) ?_
                refine X_iadd dL_law_300 ?_
                refine X_xAtJ b1 i1 dL_law_301 ?_
                refine X_callV (ci := 10) (v := some (.int r)) (koX_force 1299 (by decide) hgf.1 e1) ml_L_32 mi_X11_force rfl cf_10 (g_K1 hgf.1) rfl rfl (by decide) ⟨by omega, by omega⟩ (Nat.le_of_ble_eq_true rfl) dL_law_302 ?_
                refine X_aload_n 2 dL_law_305 rfl rfl rfl ?_
                refine X_aload_n 0 dL_law_306 rfl rfl rfl ?_
                refine X_iload_n 3 dL_law_307 rfl rfl ?_
                refine X_iconst (v := (1 : Int32)) dL_law_308 (by decide) ?_
                refine X_iadd dL_law_309 ?_
                refine X_xAtJ b1 i1 dL_law_310 ?_
                refine X_callV (ci := 11) (v := some (.int r)) (koM_force 1299 (by decide) G1 e2) ml_L_35 mi_X12_force rfl cf_11 (g_K123 G1) rfl rfl (by decide) ⟨by omega, by omega⟩ (Nat.le_of_ble_eq_true rfl) dL_law_311 ?_
                refine X_icmp_eq (tgt := 1236) dL_law_314 (by decide) (fun _ => ?_) (fun c => absurd rfl c)
                exact X_widen (by omega) (by omega) (cont hf h2 hX)
              · skip
                rcases Decidable.em (z = (5 : Int32)) with c5 | c5
                · obtain ⟨r, h1, h2, e1, G1, e2, I2⟩ := s5 h (E.2.2.2.2.2.2.2 (6 * k + 1)) (E.2.2.2.2.2.2.2 (6 * k + 2)) hI
                  obtain ⟨hf, hX⟩ := ih (k + 1) h2 (by omega) hk3 I2
                  refine ⟨hf, head hf ?_⟩
                  refine X_swK (off := 286) (tgt := 319) c5 dL_law_33 (by decide) (by decide) (by decide) (by decide) ?_
                  refine X_aload_n 1 dL_law_319 rfl rfl rfl ?_
                  refine X_aload_n 0 dL_law_320 rfl rfl rfl ?_
                  refine X_iload_n 3 dL_law_321 rfl rfl ?_
                  refine X_iconst (v := (1 : Int32)) dL_law_322 (by decide) ?_
                  refine X_iadd dL_law_323 ?_
                  refine X_xAtJ b1 i1 dL_law_324 ?_
                  refine X_aload_n 0 dL_law_325 rfl rfl rfl ?_
                  refine X_iload_n 3 dL_law_326 rfl rfl ?_
                  refine X_iconst (v := (2 : Int32)) dL_law_327 (by decide) ?_
                  refine X_iadd dL_law_328 ?_
                  refine X_xAtJ b2 i2 dL_law_329 ?_
                  refine X_callV (ci := 10) (v := some (.int r)) (koX_cell 1299 (by decide) hgf.1 e1) ml_L_36 mi_X11_cell rfl cf_10 (g_K1 hgf.1) rfl rfl (by decide) ⟨by omega, by omega⟩ (Nat.le_of_ble_eq_true rfl) dL_law_330 ?_
                  refine X_aload_n 2 dL_law_333 rfl rfl rfl ?_
                  refine X_aload_n 0 dL_law_334 rfl rfl rfl ?_
                  refine X_iload_n 3 dL_law_335 rfl rfl ?_
                  refine X_iconst (v := (1 : Int32)) dL_law_336 (by decide) ?_
                  refine X_iadd dL_law_337 ?_
                  refine X_xAtJ b1 i1 dL_law_338 ?_
                  refine X_aload_n 0 dL_law_339 rfl rfl rfl ?_
                  refine X_iload_n 3 dL_law_340 rfl rfl ?_
                  refine X_iconst (v := (2 : Int32)) dL_law_341 (by decide) ?_
                  refine X_iadd dL_law_342 ?_
                  refine X_xAtJ b2 i2 dL_law_343 ?_
                  refine X_callV (ci := 11) (v := some (.int r)) (koM_cell 1299 (by decide) G1 e2) ml_L_40 mi_X12_cell rfl cf_11 (g_K123 G1) rfl rfl (by decide) ⟨by omega, by omega⟩ (Nat.le_of_ble_eq_true rfl) dL_law_344 ?_
                  refine X_icmp_eq (tgt := 1236) dL_law_347 (by decide) (fun _ => ?_) (fun c => absurd rfl c)
                  exact X_widen (by omega) (by omega) (cont hf h2 hX)
                · skip
                  rcases Decidable.em (z = (6 : Int32)) with c6 | c6
                  · obtain ⟨r, h1, h2, e1, G1, e2, I2⟩ := s6 h (E.2.2.2.2.2.2.2 (6 * k + 1)) (E.2.2.2.2.2.2.2 (6 * k + 2)) (E.2.2.2.2.2.2.2 (6 * k + 3)) hI
                    obtain ⟨hf, hX⟩ := ih (k + 1) h2 (by omega) hk3 I2
                    refine ⟨hf, head hf ?_⟩
                    refine X_swK (off := 319) (tgt := 352) c6 dL_law_33 (by decide) (by decide) (by decide) (by decide) ?_
                    refine X_aload_n 1 dL_law_352 rfl rfl rfl ?_
                    refine X_aload_n 0 dL_law_353 rfl rfl rfl ?_
                    refine X_iload_n 3 dL_law_354 rfl rfl ?_
                    refine X_iconst (v := (1 : Int32)) dL_law_355 (by decide) ?_
                    refine X_iadd dL_law_356 ?_
                    refine X_xAtJ b1 i1 dL_law_357 ?_
                    refine X_aload_n 0 dL_law_358 rfl rfl rfl ?_
                    refine X_iload_n 3 dL_law_359 rfl rfl ?_
                    refine X_iconst (v := (2 : Int32)) dL_law_360 (by decide) ?_
                    refine X_iadd dL_law_361 ?_
                    refine X_xAtJ b2 i2 dL_law_362 ?_
                    refine X_aload_n 0 dL_law_363 rfl rfl rfl ?_
                    refine X_iload_n 3 dL_law_364 rfl rfl ?_
                    refine X_iconst (v := (3 : Int32)) dL_law_365 (by decide) ?_
                    refine X_iadd dL_law_366 ?_
                    refine X_xAtJ b3 i3 dL_law_367 ?_
                    refine X_callV (ci := 10) (v := some (.int r)) (koX_coat 1299 (by decide) hgf.1 e1) ml_L_41 mi_X11_coat rfl cf_10 (g_K1 hgf.1) rfl rfl (by decide) ⟨by omega, by omega⟩ (Nat.le_of_ble_eq_true rfl) dL_law_368 ?_
                    refine X_aload_n 2 dL_law_371 rfl rfl rfl ?_
                    refine X_aload_n 0 dL_law_372 rfl rfl rfl ?_
                    refine X_iload_n 3 dL_law_373 rfl rfl ?_
                    refine X_iconst (v := (1 : Int32)) dL_law_374 (by decide) ?_
                    refine X_iadd dL_law_375 ?_
                    refine X_xAtJ b1 i1 dL_law_376 ?_
                    refine X_aload_n 0 dL_law_377 rfl rfl rfl ?_
                    refine X_iload_n 3 dL_law_378 rfl rfl ?_
                    refine X_iconst (v := (2 : Int32)) dL_law_379 (by decide) ?_
                    refine X_iadd dL_law_380 ?_
                    refine X_xAtJ b2 i2 dL_law_381 ?_
                    refine X_aload_n 0 dL_law_382 rfl rfl rfl ?_
                    refine X_iload_n 3 dL_law_383 rfl rfl ?_
                    refine X_iconst (v := (3 : Int32)) dL_law_384 (by decide) ?_
                    refine X_iadd dL_law_385 ?_
                    refine X_xAtJ b3 i3 dL_law_386 ?_
                    refine X_callV (ci := 11) (v := some (.int r)) (koM_coat 1299 (by decide) G1 e2) ml_L_45 mi_X12_coat rfl cf_11 (g_K123 G1) rfl rfl (by decide) ⟨by omega, by omega⟩ (Nat.le_of_ble_eq_true rfl) dL_law_387 ?_
                    refine X_icmp_eq (tgt := 1236) dL_law_390 (by decide) (fun _ => ?_) (fun c => absurd rfl c)
                    exact X_widen (by omega) (by omega) (cont hf h2 hX)
                  · skip
                    rcases Decidable.em (z = (7 : Int32)) with c7 | c7
                    · obtain ⟨r, h1, h2, e1, G1, e2, I2⟩ := s7 h (E.2.2.2.2.2.2.2 (6 * k + 1)) (E.2.2.2.2.2.2.2 (6 * k + 2)) hI
                      obtain ⟨hf, hX⟩ := ih (k + 1) h2 (by omega) hk3 I2
                      refine ⟨hf, head hf ?_⟩
                      refine X_swK (off := 362) (tgt := 395) c7 dL_law_33 (by decide) (by decide) (by decide) (by decide) ?_
                      refine X_aload_n 1 dL_law_395 rfl rfl rfl ?_
                      refine X_aload_n 0 dL_law_396 rfl rfl rfl ?_
                      refine X_iload_n 3 dL_law_397 rfl rfl ?_
                      refine X_iconst (v := (1 : Int32)) dL_law_398 (by decide) ?_
                      refine X_iadd dL_law_399 ?_
                      refine X_xAtJ b1 i1 dL_law_400 ?_
                      refine X_aload_n 0 dL_law_401 rfl rfl rfl ?_
                      refine X_iload_n 3 dL_law_402 rfl rfl ?_
                      refine X_iconst (v := (2 : Int32)) dL_law_403 (by decide) ?_
                      refine X_iadd dL_law_404 ?_
                      refine X_xAtJ b2 i2 dL_law_405 ?_
                      refine X_callV (ci := 10) (v := some (.int r)) (koX_thing 1299 (by decide) hgf.1 e1) ml_L_46 mi_X11_thing rfl cf_10 (g_K1 hgf.1) rfl rfl (by decide) ⟨by omega, by omega⟩ (Nat.le_of_ble_eq_true rfl) dL_law_406 ?_
                      refine X_aload_n 2 dL_law_409 rfl rfl rfl ?_
                      refine X_aload_n 0 dL_law_410 rfl rfl rfl ?_
                      refine X_iload_n 3 dL_law_411 rfl rfl ?_
                      refine X_iconst (v := (1 : Int32)) dL_law_412 (by decide) ?_
                      refine X_iadd dL_law_413 ?_
                      refine X_xAtJ b1 i1 dL_law_414 ?_
                      refine X_aload_n 0 dL_law_415 rfl rfl rfl ?_
                      refine X_iload_n 3 dL_law_416 rfl rfl ?_
                      refine X_iconst (v := (2 : Int32)) dL_law_417 (by decide) ?_
                      refine X_iadd dL_law_418 ?_
                      refine X_xAtJ b2 i2 dL_law_419 ?_
                      refine X_callV (ci := 11) (v := some (.int r)) (koM_thing 1299 (by decide) G1 e2) ml_L_49 mi_X12_thing rfl cf_11 (g_K123 G1) rfl rfl (by decide) ⟨by omega, by omega⟩ (Nat.le_of_ble_eq_true rfl) dL_law_420 ?_
                      refine X_icmp_eq (tgt := 1236) dL_law_423 (by decide) (fun _ => ?_) (fun c => absurd rfl c)
                      exact X_widen (by omega) (by omega) (cont hf h2 hX)
                    · skip
                      rcases Decidable.em (z = (8 : Int32)) with c8 | c8
                      · obtain ⟨r, h1, h2, e1, G1, e2, I2⟩ := s8 h (E.2.2.2.2.2.2.2 (6 * k + 1)) (E.2.2.2.2.2.2.2 (6 * k + 2)) hI
                        obtain ⟨hf, hX⟩ := ih (k + 1) h2 (by omega) hk3 I2
                        refine ⟨hf, head hf ?_⟩
                        refine X_swK (off := 395) (tgt := 428) c8 dL_law_33 (by decide) (by decide) (by decide) (by decide) ?_
                        refine X_aload_n 1 dL_law_428 rfl rfl rfl ?_
                        refine X_aload_n 0 dL_law_429 rfl rfl rfl ?_
                        refine X_iload_n 3 dL_law_430 rfl rfl ?_
                        refine X_iconst (v := (1 : Int32)) dL_law_431 (by decide) ?_
                        refine X_iadd dL_law_432 ?_
                        refine X_xAtJ b1 i1 dL_law_433 ?_
                        refine X_aload_n 0 dL_law_434 rfl rfl rfl ?_
                        refine X_iload_n 3 dL_law_435 rfl rfl ?_
                        refine X_iconst (v := (2 : Int32)) dL_law_436 (by decide) ?_
                        refine X_iadd dL_law_437 ?_
                        refine X_xAtJ b2 i2 dL_law_438 ?_
                        refine X_callV (ci := 10) (v := some (.int r)) (koX_painter 1299 (by decide) hgf.1 e1) ml_L_50 mi_X11_painter rfl cf_10 (g_K1 hgf.1) rfl rfl (by decide) ⟨by omega, by omega⟩ (Nat.le_of_ble_eq_true rfl) dL_law_439 ?_
                        refine X_aload_n 2 dL_law_442 rfl rfl rfl ?_
                        refine X_aload_n 0 dL_law_443 rfl rfl rfl ?_
                        refine X_iload_n 3 dL_law_444 rfl rfl ?_
                        refine X_iconst (v := (1 : Int32)) dL_law_445 (by decide) ?_
                        refine X_iadd dL_law_446 ?_
                        refine X_xAtJ b1 i1 dL_law_447 ?_
                        refine X_aload_n 0 dL_law_448 rfl rfl rfl ?_
                        refine X_iload_n 3 dL_law_449 rfl rfl ?_
                        refine X_iconst (v := (2 : Int32)) dL_law_450 (by decide) ?_
                        refine X_iadd dL_law_451 ?_
                        refine X_xAtJ b2 i2 dL_law_452 ?_
                        refine X_callV (ci := 11) (v := some (.int r)) (koM_painter 1299 (by decide) G1 e2) ml_L_53 mi_X12_painter rfl cf_11 (g_K123 G1) rfl rfl (by decide) ⟨by omega, by omega⟩ (Nat.le_of_ble_eq_true rfl) dL_law_453 ?_
                        refine X_icmp_eq (tgt := 1236) dL_law_456 (by decide) (fun _ => ?_) (fun c => absurd rfl c)
                        exact X_widen (by omega) (by omega) (cont hf h2 hX)
                      · skip
                        rcases Decidable.em (z = (9 : Int32)) with c9 | c9
                        · obtain ⟨r, h1, h2, e1, G1, e2, I2⟩ := s9 h (E.2.2.2.2.2.2.2 (6 * k + 1)) hI
                          obtain ⟨hf, hX⟩ := ih (k + 1) h2 (by omega) hk3 I2
                          refine ⟨hf, head hf ?_⟩
                          refine X_swK (off := 428) (tgt := 461) c9 dL_law_33 (by decide) (by decide) (by decide) (by decide) ?_
                          refine X_aload_n 1 dL_law_461 rfl rfl rfl ?_
                          refine X_aload_n 0 dL_law_462 rfl rfl rfl ?_
                          refine X_iload_n 3 dL_law_463 rfl rfl ?_
                          refine X_iconst (v := (1 : Int32)) dL_law_464 (by decide) ?_
                          refine X_iadd dL_law_465 ?_
                          refine X_xAtJ b1 i1 dL_law_466 ?_
                          refine X_callV (ci := 10) (v := some (.int r)) (koX_rain 1299 (by decide) hgf.1 e1) ml_L_54 mi_X11_rain rfl cf_10 (g_K1 hgf.1) rfl rfl (by decide) ⟨by omega, by omega⟩ (Nat.le_of_ble_eq_true rfl) dL_law_467 ?_
                          refine X_aload_n 2 dL_law_470 rfl rfl rfl ?_
                          refine X_aload_n 0 dL_law_471 rfl rfl rfl ?_
                          refine X_iload_n 3 dL_law_472 rfl rfl ?_
                          refine X_iconst (v := (1 : Int32)) dL_law_473 (by decide) ?_
                          refine X_iadd dL_law_474 ?_
                          refine X_xAtJ b1 i1 dL_law_475 ?_
                          refine X_callV (ci := 11) (v := some (.int r)) (koM_rain 1299 (by decide) G1 e2) ml_L_57 mi_X12_rain rfl cf_11 (g_K123 G1) rfl rfl (by decide) ⟨by omega, by omega⟩ (Nat.le_of_ble_eq_true rfl) dL_law_476 ?_
                          refine X_icmp_eq (tgt := 1236) dL_law_479 (by decide) (fun _ => ?_) (fun c => absurd rfl c)
                          exact X_widen (by omega) (by omega) (cont hf h2 hX)
                        · skip
                          rcases Decidable.em (z = (10 : Int32)) with c10 | c10
                          · obtain ⟨r, h1, h2, e1, G1, e2, I2⟩ := s10 h  hI
                            obtain ⟨hf, hX⟩ := ih (k + 1) h2 (by omega) hk3 I2
                            refine ⟨hf, head hf ?_⟩
                            refine X_swK (off := 451) (tgt := 484) c10 dL_law_33 (by decide) (by decide) (by decide) (by decide) ?_
                            refine X_aload_n 1 dL_law_484 rfl rfl rfl ?_
                            refine X_callV (ci := 10) (v := some (.int r)) (koX_hour 1299 (by decide) hgf.1 e1) ml_L_58 mi_X11_hour rfl cf_10 (g_K1 hgf.1) rfl rfl (by decide) ⟨by omega, by omega⟩ (Nat.le_of_ble_eq_true rfl) dL_law_485 ?_
                            refine X_aload_n 2 dL_law_488 rfl rfl rfl ?_
                            refine X_callV (ci := 11) (v := some (.int r)) (koM_hour 1299 (by decide) G1 e2) ml_L_61 mi_X12_hour rfl cf_11 (g_K123 G1) rfl rfl (by decide) ⟨by omega, by omega⟩ (Nat.le_of_ble_eq_true rfl) dL_law_489 ?_
                            refine X_icmp_eq (tgt := 1236) dL_law_492 (by decide) (fun _ => ?_) (fun c => absurd rfl c)
                            exact X_widen (by omega) (by omega) (cont hf h2 hX)
                          · skip
                            rcases Decidable.em (z = (11 : Int32)) with c11 | c11
                            · obtain ⟨r, h1, h2, e1, G1, e2, I2⟩ := s11 h (E.2.2.2.2.2.2.2 (6 * k + 1)) (E.2.2.2.2.2.2.2 (6 * k + 2)) hI
                              obtain ⟨hf, hX⟩ := ih (k + 1) h2 (by omega) hk3 I2
                              refine ⟨hf, head hf ?_⟩
                              refine X_swK (off := 464) (tgt := 497) c11 dL_law_33 (by decide) (by decide) (by decide) (by decide) ?_
                              refine X_aload_n 1 dL_law_497 rfl rfl rfl ?_
                              refine X_aload_n 0 dL_law_498 rfl rfl rfl ?_
                              refine X_iload_n 3 dL_law_499 rfl rfl ?_
                              refine X_iconst (v := (1 : Int32)) dL_law_500 (by decide) ?_
                              refine X_iadd dL_law_501 ?_
                              refine X_xAtJ b1 i1 dL_law_502 ?_
                              refine X_aload_n 0 dL_law_503 rfl rfl rfl ?_
                              refine X_iload_n 3 dL_law_504 rfl rfl ?_
                              refine X_iconst (v := (2 : Int32)) dL_law_505 (by decide) ?_
                              refine X_iadd dL_law_506 ?_
                              refine X_xAtJ b2 i2 dL_law_507 ?_
                              refine X_callV (ci := 10) (v := some (.int r)) (koX_paint 1299 (by decide) hgf.1 e1) ml_L_62 mi_X11_paint rfl cf_10 (g_K1 hgf.1) rfl rfl (by decide) ⟨by omega, by omega⟩ (Nat.le_of_ble_eq_true rfl) dL_law_508 ?_
                              refine X_aload_n 2 dL_law_511 rfl rfl rfl ?_
                              refine X_aload_n 0 dL_law_512 rfl rfl rfl ?_
                              refine X_iload_n 3 dL_law_513 rfl rfl ?_
                              refine X_iconst (v := (1 : Int32)) dL_law_514 (by decide) ?_
                              refine X_iadd dL_law_515 ?_
                              refine X_xAtJ b1 i1 dL_law_516 ?_
                              refine X_aload_n 0 dL_law_517 rfl rfl rfl ?_
                              refine X_iload_n 3 dL_law_518 rfl rfl ?_
                              refine X_iconst (v := (2 : Int32)) dL_law_519 (by decide) ?_
                              refine X_iadd dL_law_520 ?_
                              refine X_xAtJ b2 i2 dL_law_521 ?_
                              refine X_callV (ci := 11) (v := some (.int r)) (koM_paint 1299 (by decide) G1 e2) ml_L_65 mi_X12_paint rfl cf_11 (g_K123 G1) rfl rfl (by decide) ⟨by omega, by omega⟩ (Nat.le_of_ble_eq_true rfl) dL_law_522 ?_
                              refine X_icmp_eq (tgt := 1236) dL_law_525 (by decide) (fun _ => ?_) (fun c => absurd rfl c)
                              exact X_widen (by omega) (by omega) (cont hf h2 hX)
                            · skip
                              rcases Decidable.em (z = (12 : Int32)) with c12 | c12
                              · obtain ⟨r, h1, h2, e1, G1, e2, I2⟩ := s12 h (E.2.2.2.2.2.2.2 (6 * k + 1)) hI
                                obtain ⟨hf, hX⟩ := ih (k + 1) h2 (by omega) hk3 I2
                                refine ⟨hf, head hf ?_⟩
                                refine X_swK (off := 497) (tgt := 530) c12 dL_law_33 (by decide) (by decide) (by decide) (by decide) ?_
                                refine X_aload_n 1 dL_law_530 rfl rfl rfl ?_
                                refine X_aload_n 0 dL_law_531 rfl rfl rfl ?_
                                refine X_iload_n 3 dL_law_532 rfl rfl ?_
                                refine X_iconst (v := (1 : Int32)) dL_law_533 (by decide) ?_
                                refine X_iadd dL_law_534 ?_
                                refine X_xAtJ b1 i1 dL_law_535 ?_
                                refine X_callV (ci := 10) (v := some (.int r)) (koX_scrape 1299 (by decide) hgf.1 e1) ml_L_66 mi_X11_scrape rfl cf_10 (g_K1 hgf.1) rfl rfl (by decide) ⟨by omega, by omega⟩ (Nat.le_of_ble_eq_true rfl) dL_law_536 ?_
                                refine X_aload_n 2 dL_law_539 rfl rfl rfl ?_
                                refine X_aload_n 0 dL_law_540 rfl rfl rfl ?_
                                refine X_iload_n 3 dL_law_541 rfl rfl ?_
                                refine X_iconst (v := (1 : Int32)) dL_law_542 (by decide) ?_
                                refine X_iadd dL_law_543 ?_
                                refine X_xAtJ b1 i1 dL_law_544 ?_
                                refine X_callV (ci := 11) (v := some (.int r)) (koM_scrape 1299 (by decide) G1 e2) ml_L_69 mi_X12_scrape rfl cf_11 (g_K123 G1) rfl rfl (by decide) ⟨by omega, by omega⟩ (Nat.le_of_ble_eq_true rfl) dL_law_545 ?_
                                refine X_icmp_eq (tgt := 1236) dL_law_548 (by decide) (fun _ => ?_) (fun c => absurd rfl c)
                                exact X_widen (by omega) (by omega) (cont hf h2 hX)
                              · skip
                                rcases Decidable.em (z = (13 : Int32)) with c13 | c13
                                · obtain ⟨r, h1, h2, e1, G1, e2, I2⟩ := s13 h (E.2.2.2.2.2.2.2 (6 * k + 1)) hI
                                  obtain ⟨hf, hX⟩ := ih (k + 1) h2 (by omega) hk3 I2
                                  refine ⟨hf, head hf ?_⟩
                                  refine X_swK (off := 520) (tgt := 553) c13 dL_law_33 (by decide) (by decide) (by decide) (by decide) ?_
                                  refine X_aload_n 1 dL_law_553 rfl rfl rfl ?_
                                  refine X_aload_n 0 dL_law_554 rfl rfl rfl ?_
                                  refine X_iload_n 3 dL_law_555 rfl rfl ?_
                                  refine X_iconst (v := (1 : Int32)) dL_law_556 (by decide) ?_
                                  refine X_iadd dL_law_557 ?_
                                  refine X_xAtJ b1 i1 dL_law_558 ?_
                                  refine X_callV (ci := 10) (v := some (.int r)) (koX_vote 1299 (by decide) hgf.1 e1) ml_L_70 mi_X11_vote rfl cf_10 (g_K1 hgf.1) rfl rfl (by decide) ⟨by omega, by omega⟩ (Nat.le_of_ble_eq_true rfl) dL_law_559 ?_
                                  refine X_aload_n 2 dL_law_562 rfl rfl rfl ?_
                                  refine X_aload_n 0 dL_law_563 rfl rfl rfl ?_
                                  refine X_iload_n 3 dL_law_564 rfl rfl ?_
                                  refine X_iconst (v := (1 : Int32)) dL_law_565 (by decide) ?_
                                  refine X_iadd dL_law_566 ?_
                                  refine X_xAtJ b1 i1 dL_law_567 ?_
                                  refine X_callV (ci := 11) (v := some (.int r)) (koM_vote 1299 (by decide) G1 e2) ml_L_73 mi_X12_vote rfl cf_11 (g_K123 G1) rfl rfl (by decide) ⟨by omega, by omega⟩ (Nat.le_of_ble_eq_true rfl) dL_law_568 ?_
                                  refine X_icmp_eq (tgt := 1236) dL_law_571 (by decide) (fun _ => ?_) (fun c => absurd rfl c)
                                  exact X_widen (by omega) (by omega) (cont hf h2 hX)
                                · skip
                                  rcases Decidable.em (z = (14 : Int32)) with c14 | c14
                                  · obtain ⟨r, h1, h2, e1, G1, e2, I2⟩ := s14 h  hI
                                    obtain ⟨hf, hX⟩ := ih (k + 1) h2 (by omega) hk3 I2
                                    refine ⟨hf, head hf ?_⟩
                                    refine X_swK (off := 543) (tgt := 576) c14 dL_law_33 (by decide) (by decide) (by decide) (by decide) ?_
                                    refine X_aload_n 1 dL_law_576 rfl rfl rfl ?_
                                    refine X_callV (ci := 10) (v := some (.int r)) (koX_undo 1299 (by decide) hgf.1 e1) ml_L_74 mi_X11_undo rfl cf_10 (g_K1 hgf.1) rfl rfl (by decide) ⟨by omega, by omega⟩ (Nat.le_of_ble_eq_true rfl) dL_law_577 ?_
                                    refine X_aload_n 2 dL_law_580 rfl rfl rfl ?_
                                    refine X_callV (ci := 11) (v := some (.int r)) (koM_undo 1299 (by decide) G1 e2) ml_L_77 mi_X12_undo rfl cf_11 (g_K123 G1) rfl rfl (by decide) ⟨by omega, by omega⟩ (Nat.le_of_ble_eq_true rfl) dL_law_581 ?_
                                    refine X_icmp_eq (tgt := 1236) dL_law_584 (by decide) (fun _ => ?_) (fun c => absurd rfl c)
                                    exact X_widen (by omega) (by omega) (cont hf h2 hX)
                                  · skip
                                    rcases Decidable.em (z = (15 : Int32)) with c15 | c15
                                    · obtain ⟨r, h1, h2, e1, G1, e2, I2⟩ := s15 h (E.2.2.2.2.2.2.2 (6 * k + 1)) (E.2.2.2.2.2.2.2 (6 * k + 2)) (E.2.2.2.2.2.2.2 (6 * k + 3)) hI
                                      obtain ⟨hf, hX⟩ := ih (k + 1) h2 (by omega) hk3 I2
                                      refine ⟨hf, head hf ?_⟩
                                      refine X_swK (off := 556) (tgt := 589) c15 dL_law_33 (by decide) (by decide) (by decide) (by decide) ?_
                                      refine X_aload_n 1 dL_law_589 rfl rfl rfl ?_
                                      refine X_aload_n 0 dL_law_590 rfl rfl rfl ?_
                                      refine X_iload_n 3 dL_law_591 rfl rfl ?_
                                      refine X_iconst (v := (1 : Int32)) dL_law_592 (by decide) ?_
                                      refine X_iadd dL_law_593 ?_
                                      refine X_xAtJ b1 i1 dL_law_594 ?_
                                      refine X_aload_n 0 dL_law_595 rfl rfl rfl ?_
                                      refine X_iload_n 3 dL_law_596 rfl rfl ?_
                                      refine X_iconst (v := (2 : Int32)) dL_law_597 (by decide) ?_
                                      refine X_iadd dL_law_598 ?_
                                      refine X_xAtJ b2 i2 dL_law_599 ?_
                                      refine X_aload_n 0 dL_law_600 rfl rfl rfl ?_
                                      refine X_iload_n 3 dL_law_601 rfl rfl ?_
                                      refine X_iconst (v := (3 : Int32)) dL_law_602 (by decide) ?_
                                      refine X_iadd dL_law_603 ?_
                                      refine X_xAtJ b3 i3 dL_law_604 ?_
                                      refine X_callV (ci := 10) (v := some (.int r)) (koX_ahead 1299 (by decide) hgf.1 e1) ml_L_78 mi_X11_ahead rfl cf_10 (g_K1 hgf.1) rfl rfl (by decide) ⟨by omega, by omega⟩ (Nat.le_of_ble_eq_true rfl) dL_law_605 ?_
                                      refine X_aload_n 2 dL_law_608 rfl rfl rfl ?_
                                      refine X_aload_n 0 dL_law_609 rfl rfl rfl ?_
                                      refine X_iload_n 3 dL_law_610 rfl rfl ?_
                                      refine X_iconst (v := (1 : Int32)) dL_law_611 (by decide) ?_
                                      refine X_iadd dL_law_612 ?_
                                      refine X_xAtJ b1 i1 dL_law_613 ?_
                                      refine X_aload_n 0 dL_law_614 rfl rfl rfl ?_
                                      refine X_iload_n 3 dL_law_615 rfl rfl ?_
                                      refine X_iconst (v := (2 : Int32)) dL_law_616 (by decide) ?_
                                      refine X_iadd dL_law_617 ?_
                                      refine X_xAtJ b2 i2 dL_law_618 ?_
                                      refine X_aload_n 0 dL_law_619 rfl rfl rfl ?_
                                      refine X_iload_n 3 dL_law_620 rfl rfl ?_
                                      refine X_iconst (v := (3 : Int32)) dL_law_621 (by decide) ?_
                                      refine X_iadd dL_law_622 ?_
                                      refine X_xAtJ b3 i3 dL_law_623 ?_
                                      refine X_callV (ci := 11) (v := some (.int r)) (koM_ahead 1299 (by decide) G1 e2) ml_L_81 mi_X12_ahead rfl cf_11 (g_K123 G1) rfl rfl (by decide) ⟨by omega, by omega⟩ (Nat.le_of_ble_eq_true rfl) dL_law_624 ?_
                                      refine X_icmp_eq (tgt := 1236) dL_law_627 (by decide) (fun _ => ?_) (fun c => absurd rfl c)
                                      exact X_widen (by omega) (by omega) (cont hf h2 hX)
                                    · skip
                                      rcases Decidable.em (z = (16 : Int32)) with c16 | c16
                                      · obtain ⟨r, h1, h2, e1, G1, e2, I2⟩ := s16 h (E.2.2.2.2.2.2.2 (6 * k + 1)) (E.2.2.2.2.2.2.2 (6 * k + 2)) hI
                                        obtain ⟨hf, hX⟩ := ih (k + 1) h2 (by omega) hk3 I2
                                        refine ⟨hf, head hf ?_⟩
                                        refine X_swK (off := 599) (tgt := 632) c16 dL_law_33 (by decide) (by decide) (by decide) (by decide) ?_
                                        refine X_aload_n 1 dL_law_632 rfl rfl rfl ?_
                                        refine X_aload_n 0 dL_law_633 rfl rfl rfl ?_
                                        refine X_iload_n 3 dL_law_634 rfl rfl ?_
                                        refine X_iconst (v := (1 : Int32)) dL_law_635 (by decide) ?_
                                        refine X_iadd dL_law_636 ?_
                                        refine X_xAtJ b1 i1 dL_law_637 ?_
                                        refine X_aload_n 0 dL_law_638 rfl rfl rfl ?_
                                        refine X_iload_n 3 dL_law_639 rfl rfl ?_
                                        refine X_iconst (v := (2 : Int32)) dL_law_640 (by decide) ?_
                                        refine X_iadd dL_law_641 ?_
                                        refine X_xAtJ b2 i2 dL_law_642 ?_
                                        refine X_callV (ci := 10) (v := some (.int r)) (koX_rents 1299 (by decide) hgf.1 e1) ml_L_82 mi_X11_rents rfl cf_10 (g_K1 hgf.1) rfl rfl (by decide) ⟨by omega, by omega⟩ (Nat.le_of_ble_eq_true rfl) dL_law_643 ?_
                                        refine X_aload_n 2 dL_law_646 rfl rfl rfl ?_
                                        refine X_aload_n 0 dL_law_647 rfl rfl rfl ?_
                                        refine X_iload_n 3 dL_law_648 rfl rfl ?_
                                        refine X_iconst (v := (1 : Int32)) dL_law_649 (by decide) ?_
                                        refine X_iadd dL_law_650 ?_
                                        refine X_xAtJ b1 i1 dL_law_651 ?_
                                        refine X_aload_n 0 dL_law_652 rfl rfl rfl ?_
                                        refine X_iload_n 3 dL_law_653 rfl rfl ?_
                                        refine X_iconst (v := (2 : Int32)) dL_law_654 (by decide) ?_
                                        refine X_iadd dL_law_655 ?_
                                        refine X_xAtJ b2 i2 dL_law_656 ?_
                                        refine X_callV (ci := 11) (v := some (.int r)) (koM_rents 1299 (by decide) G1 e2) ml_L_85 mi_X12_rents rfl cf_11 (g_K123 G1) rfl rfl (by decide) ⟨by omega, by omega⟩ (Nat.le_of_ble_eq_true rfl) dL_law_657 ?_
                                        refine X_icmp_eq (tgt := 1236) dL_law_660 (by decide) (fun _ => ?_) (fun c => absurd rfl c)
                                        exact X_widen (by omega) (by omega) (cont hf h2 hX)
                                      · skip
                                        rcases Decidable.em (z = (17 : Int32)) with c17 | c17
                                        · obtain ⟨r, h1, h2, e1, G1, e2, I2⟩ := s17 h (E.2.2.2.2.2.2.2 (6 * k + 1)) (E.2.2.2.2.2.2.2 (6 * k + 2)) (E.2.2.2.2.2.2.2 (6 * k + 3)) (E.2.2.2.2.2.2.2 (6 * k + 4)) hI
                                          obtain ⟨hf, hX⟩ := ih (k + 1) h2 (by omega) hk3 I2
                                          refine ⟨hf, head hf ?_⟩
                                          refine X_swK (off := 632) (tgt := 665) c17 dL_law_33 (by decide) (by decide) (by decide) (by decide) ?_
                                          refine X_aload_n 1 dL_law_665 rfl rfl rfl ?_
                                          refine X_aload_n 0 dL_law_666 rfl rfl rfl ?_
                                          refine X_iload_n 3 dL_law_667 rfl rfl ?_
                                          refine X_iconst (v := (1 : Int32)) dL_law_668 (by decide) ?_
                                          refine X_iadd dL_law_669 ?_
                                          refine X_xAtJ b1 i1 dL_law_670 ?_
                                          refine X_aload_n 0 dL_law_671 rfl rfl rfl ?_
                                          refine X_iload_n 3 dL_law_672 rfl rfl ?_
                                          refine X_iconst (v := (2 : Int32)) dL_law_673 (by decide) ?_
                                          refine X_iadd dL_law_674 ?_
                                          refine X_xAtJ b2 i2 dL_law_675 ?_
                                          refine X_aload_n 0 dL_law_676 rfl rfl rfl ?_
                                          refine X_iload_n 3 dL_law_677 rfl rfl ?_
                                          refine X_iconst (v := (3 : Int32)) dL_law_678 (by decide) ?_
                                          refine X_iadd dL_law_679 ?_
                                          refine X_xAtJ b3 i3 dL_law_680 ?_
                                          refine X_aload_n 0 dL_law_681 rfl rfl rfl ?_
                                          refine X_iload_n 3 dL_law_682 rfl rfl ?_
                                          refine X_iconst (v := (4 : Int32)) dL_law_683 (by decide) ?_
                                          refine X_iadd dL_law_684 ?_
                                          refine X_xAtJ b4 i4 dL_law_685 ?_
                                          refine X_callV (ci := 10) (v := some (.int r)) (koX_least 1299 (by decide) hgf.1 e1) ml_L_86 mi_X11_least rfl cf_10 (g_K1 hgf.1) rfl rfl (by decide) ⟨by omega, by omega⟩ (Nat.le_of_ble_eq_true rfl) dL_law_686 ?_
                                          refine X_aload_n 2 dL_law_689 rfl rfl rfl ?_
                                          refine X_aload_n 0 dL_law_690 rfl rfl rfl ?_
                                          refine X_iload_n 3 dL_law_691 rfl rfl ?_
                                          refine X_iconst (v := (1 : Int32)) dL_law_692 (by decide) ?_
                                          refine X_iadd dL_law_693 ?_
                                          refine X_xAtJ b1 i1 dL_law_694 ?_
                                          refine X_aload_n 0 dL_law_695 rfl rfl rfl ?_
                                          refine X_iload_n 3 dL_law_696 rfl rfl ?_
                                          refine X_iconst (v := (2 : Int32)) dL_law_697 (by decide) ?_
                                          refine X_iadd dL_law_698 ?_
                                          refine X_xAtJ b2 i2 dL_law_699 ?_
                                          refine X_aload_n 0 dL_law_700 rfl rfl rfl ?_
                                          refine X_iload_n 3 dL_law_701 rfl rfl ?_
                                          refine X_iconst (v := (3 : Int32)) dL_law_702 (by decide) ?_
                                          refine X_iadd dL_law_703 ?_
                                          refine X_xAtJ b3 i3 dL_law_704 ?_
                                          refine X_aload_n 0 dL_law_705 rfl rfl rfl ?_
                                          refine X_iload_n 3 dL_law_706 rfl rfl ?_
                                          refine X_iconst (v := (4 : Int32)) dL_law_707 (by decide) ?_
                                          refine X_iadd dL_law_708 ?_
                                          refine X_xAtJ b4 i4 dL_law_709 ?_
                                          refine X_callV (ci := 11) (v := some (.int r)) (koM_least 1299 (by decide) G1 e2) ml_L_90 mi_X12_least rfl cf_11 (g_K123 G1) rfl rfl (by decide) ⟨by omega, by omega⟩ (Nat.le_of_ble_eq_true rfl) dL_law_710 ?_
                                          refine X_icmp_eq (tgt := 1236) dL_law_713 (by decide) (fun _ => ?_) (fun c => absurd rfl c)
                                          exact X_widen (by omega) (by omega) (cont hf h2 hX)
                                        · skip
                                          rcases Decidable.em (z = (18 : Int32)) with c18 | c18
                                          · obtain ⟨r, h1, h2, e1, G1, e2, I2⟩ := s18 h (E.2.2.2.2.2.2.2 (6 * k + 1)) (E.2.2.2.2.2.2.2 (6 * k + 2)) (E.2.2.2.2.2.2.2 (6 * k + 3)) hI
                                            obtain ⟨hf, hX⟩ := ih (k + 1) h2 (by omega) hk3 I2
                                            refine ⟨hf, head hf ?_⟩
                                            refine X_swK (off := 685) (tgt := 718) c18 dL_law_33 (by decide) (by decide) (by decide) (by decide) ?_
                                            refine X_aload_n 1 dL_law_718 rfl rfl rfl ?_
                                            refine X_aload_n 0 dL_law_719 rfl rfl rfl ?_
                                            refine X_iload_n 3 dL_law_720 rfl rfl ?_
                                            refine X_iconst (v := (1 : Int32)) dL_law_721 (by decide) ?_
                                            refine X_iadd dL_law_722 ?_
                                            refine X_xAtJ b1 i1 dL_law_723 ?_
                                            refine X_aload_n 0 dL_law_724 rfl rfl rfl ?_
                                            refine X_iload_n 3 dL_law_725 rfl rfl ?_
                                            refine X_iconst (v := (2 : Int32)) dL_law_726 (by decide) ?_
                                            refine X_iadd dL_law_727 ?_
                                            refine X_xAtJ b2 i2 dL_law_728 ?_
                                            refine X_aload_n 0 dL_law_729 rfl rfl rfl ?_
                                            refine X_iload_n 3 dL_law_730 rfl rfl ?_
                                            refine X_iconst (v := (3 : Int32)) dL_law_731 (by decide) ?_
                                            refine X_iadd dL_law_732 ?_
                                            refine X_xAtJ b3 i3 dL_law_733 ?_
                                            refine X_callV (ci := 10) (v := some (.int r)) (koX_fewest 1299 (by decide) hgf.1 e1) ml_L_91 mi_X11_fewest rfl cf_10 (g_K1 hgf.1) rfl rfl (by decide) ⟨by omega, by omega⟩ (Nat.le_of_ble_eq_true rfl) dL_law_734 ?_
                                            refine X_aload_n 2 dL_law_737 rfl rfl rfl ?_
                                            refine X_aload_n 0 dL_law_738 rfl rfl rfl ?_
                                            refine X_iload_n 3 dL_law_739 rfl rfl ?_
                                            refine X_iconst (v := (1 : Int32)) dL_law_740 (by decide) ?_
                                            refine X_iadd dL_law_741 ?_
                                            refine X_xAtJ b1 i1 dL_law_742 ?_
                                            refine X_aload_n 0 dL_law_743 rfl rfl rfl ?_
                                            refine X_iload_n 3 dL_law_744 rfl rfl ?_
                                            refine X_iconst (v := (2 : Int32)) dL_law_745 (by decide) ?_
                                            refine X_iadd dL_law_746 ?_
                                            refine X_xAtJ b2 i2 dL_law_747 ?_
                                            refine X_aload_n 0 dL_law_748 rfl rfl rfl ?_
                                            refine X_iload_n 3 dL_law_749 rfl rfl ?_
                                            refine X_iconst (v := (3 : Int32)) dL_law_750 (by decide) ?_
                                            refine X_iadd dL_law_751 ?_
                                            refine X_xAtJ b3 i3 dL_law_752 ?_
                                            refine X_callV (ci := 11) (v := some (.int r)) (koM_fewest 1299 (by decide) G1 e2) ml_L_94 mi_X12_fewest rfl cf_11 (g_K123 G1) rfl rfl (by decide) ⟨by omega, by omega⟩ (Nat.le_of_ble_eq_true rfl) dL_law_753 ?_
                                            refine X_icmp_eq (tgt := 1236) dL_law_756 (by decide) (fun _ => ?_) (fun c => absurd rfl c)
                                            exact X_widen (by omega) (by omega) (cont hf h2 hX)
                                          · skip
                                            rcases Decidable.em (z = (19 : Int32)) with c19 | c19
                                            · obtain ⟨r, h1, h2, e1, G1, e2, I2⟩ := s19 h  hI
                                              obtain ⟨hf, hX⟩ := ih (k + 1) h2 (by omega) hk3 I2
                                              refine ⟨hf, head hf ?_⟩
                                              refine X_swK (off := 728) (tgt := 761) c19 dL_law_33 (by decide) (by decide) (by decide) (by decide) ?_
                                              refine X_aload_n 1 dL_law_761 rfl rfl rfl ?_
                                              refine X_callV (ci := 10) (v := some (.int r)) (koX_when 1299 (by decide) hgf.1 e1) ml_L_95 mi_X11_when rfl cf_10 (g_K1 hgf.1) rfl rfl (by decide) ⟨by omega, by omega⟩ (Nat.le_of_ble_eq_true rfl) dL_law_762 ?_
                                              refine X_aload_n 2 dL_law_765 rfl rfl rfl ?_
                                              refine X_callV (ci := 11) (v := some (.int r)) (koM_when 1299 (by decide) G1 e2) ml_L_98 mi_X12_when rfl cf_11 (g_K123 G1) rfl rfl (by decide) ⟨by omega, by omega⟩ (Nat.le_of_ble_eq_true rfl) dL_law_766 ?_
                                              refine X_icmp_eq (tgt := 1236) dL_law_769 (by decide) (fun _ => ?_) (fun c => absurd rfl c)
                                              exact X_widen (by omega) (by omega) (cont hf h2 hX)
                                            · skip
                                              rcases Decidable.em (z = (20 : Int32)) with c20 | c20
                                              · obtain ⟨r, h1, h2, e1, G1, e2, I2⟩ := s20 h (E.2.2.2.2.2.2.2 (6 * k + 1)) (E.2.2.2.2.2.2.2 (6 * k + 2)) (E.2.2.2.2.2.2.2 (6 * k + 3)) (E.2.2.2.2.2.2.2 (6 * k + 4)) (E.2.2.2.2.2.2.2 (6 * k + 5)) hI
                                                obtain ⟨hf, hX⟩ := ih (k + 1) h2 (by omega) hk3 I2
                                                refine ⟨hf, head hf ?_⟩
                                                refine X_swK (off := 741) (tgt := 774) c20 dL_law_33 (by decide) (by decide) (by decide) (by decide) ?_
                                                refine X_aload_n 1 dL_law_774 rfl rfl rfl ?_
                                                refine X_aload_n 0 dL_law_775 rfl rfl rfl ?_
                                                refine X_iload_n 3 dL_law_776 rfl rfl ?_
                                                refine X_iconst (v := (1 : Int32)) dL_law_777 (by decide) ?_
                                                refine X_iadd dL_law_778 ?_
                                                refine X_xAtJ b1 i1 dL_law_779 ?_
                                                refine X_aload_n 0 dL_law_780 rfl rfl rfl ?_
                                                refine X_iload_n 3 dL_law_781 rfl rfl ?_
                                                refine X_iconst (v := (2 : Int32)) dL_law_782 (by decide) ?_
                                                refine X_iadd dL_law_783 ?_
                                                refine X_xAtJ b2 i2 dL_law_784 ?_
                                                refine X_aload_n 0 dL_law_785 rfl rfl rfl ?_
                                                refine X_iload_n 3 dL_law_786 rfl rfl ?_
                                                refine X_iconst (v := (3 : Int32)) dL_law_787 (by decide) ?_
                                                refine X_iadd dL_law_788 ?_
                                                refine X_xAtJ b3 i3 dL_law_789 ?_
                                                refine X_aload_n 0 dL_law_790 rfl rfl rfl ?_
                                                refine X_iload_n 3 dL_law_791 rfl rfl ?_
                                                refine X_iconst (v := (4 : Int32)) dL_law_792 (by decide) ?_
                                                refine X_iadd dL_law_793 ?_
                                                refine X_xAtJ b4 i4 dL_law_794 ?_
                                                refine X_aload_n 0 dL_law_795 rfl rfl rfl ?_
                                                refine X_iload_n 3 dL_law_796 rfl rfl ?_
                                                refine X_iconst (v := (5 : Int32)) dL_law_797 (by decide) ?_
                                                refine X_iadd dL_law_798 ?_
                                                refine X_xAtJ b5 i5 dL_law_799 ?_
                                                refine X_callV (ci := 10) (v := some (.int r)) (koX_game 1299 (by decide) hgf.1 e1) ml_L_99 mi_X11_game rfl cf_10 (g_K1 hgf.1) rfl rfl (by decide) ⟨by omega, by omega⟩ (Nat.le_of_ble_eq_true rfl) dL_law_800 ?_
                                                refine X_aload_n 2 dL_law_803 rfl rfl rfl ?_
                                                refine X_aload_n 0 dL_law_804 rfl rfl rfl ?_
                                                refine X_iload_n 3 dL_law_805 rfl rfl ?_
                                                refine X_iconst (v := (1 : Int32)) dL_law_806 (by decide) ?_
                                                refine X_iadd dL_law_807 ?_
                                                refine X_xAtJ b1 i1 dL_law_808 ?_
                                                refine X_aload_n 0 dL_law_809 rfl rfl rfl ?_
                                                refine X_iload_n 3 dL_law_810 rfl rfl ?_
                                                refine X_iconst (v := (2 : Int32)) dL_law_811 (by decide) ?_
                                                refine X_iadd dL_law_812 ?_
                                                refine X_xAtJ b2 i2 dL_law_813 ?_
                                                refine X_aload_n 0 dL_law_814 rfl rfl rfl ?_
                                                refine X_iload_n 3 dL_law_815 rfl rfl ?_
                                                refine X_iconst (v := (3 : Int32)) dL_law_816 (by decide) ?_
                                                refine X_iadd dL_law_817 ?_
                                                refine X_xAtJ b3 i3 dL_law_818 ?_
                                                refine X_aload_n 0 dL_law_819 rfl rfl rfl ?_
                                                refine X_iload_n 3 dL_law_820 rfl rfl ?_
                                                refine X_iconst (v := (4 : Int32)) dL_law_821 (by decide) ?_
                                                refine X_iadd dL_law_822 ?_
                                                refine X_xAtJ b4 i4 dL_law_823 ?_
                                                refine X_aload_n 0 dL_law_824 rfl rfl rfl ?_
                                                refine X_iload_n 3 dL_law_825 rfl rfl ?_
                                                refine X_iconst (v := (5 : Int32)) dL_law_826 (by decide) ?_
                                                refine X_iadd dL_law_827 ?_
                                                refine X_xAtJ b5 i5 dL_law_828 ?_
                                                refine X_callV (ci := 11) (v := some (.int r)) (koM_game 1299 (by decide) G1 e2) ml_L_102 mi_X12_game rfl cf_11 (g_K123 G1) rfl rfl (by decide) ⟨by omega, by omega⟩ (Nat.le_of_ble_eq_true rfl) dL_law_829 ?_
                                                refine X_icmp_eq (tgt := 1236) dL_law_832 (by decide) (fun _ => ?_) (fun c => absurd rfl c)
                                                exact X_widen (by omega) (by omega) (cont hf h2 hX)
                                              · skip
                                                rcases Decidable.em (z = (21 : Int32)) with c21 | c21
                                                · obtain ⟨r, h1, h2, e1, G1, e2, I2⟩ := s21 h (E.2.2.2.2.2.2.2 (6 * k + 1)) (E.2.2.2.2.2.2.2 (6 * k + 2)) (E.2.2.2.2.2.2.2 (6 * k + 3)) hI
                                                  obtain ⟨hf, hX⟩ := ih (k + 1) h2 (by omega) hk3 I2
                                                  refine ⟨hf, head hf ?_⟩
                                                  refine X_swK (off := 804) (tgt := 837) c21 dL_law_33 (by decide) (by decide) (by decide) (by decide) ?_
                                                  refine X_aload_n 1 dL_law_837 rfl rfl rfl ?_
                                                  refine X_aload_n 0 dL_law_838 rfl rfl rfl ?_
                                                  refine X_iload_n 3 dL_law_839 rfl rfl ?_
                                                  refine X_iconst (v := (1 : Int32)) dL_law_840 (by decide) ?_
                                                  refine X_iadd dL_law_841 ?_
                                                  refine X_xAtJ b1 i1 dL_law_842 ?_
                                                  refine X_aload_n 0 dL_law_843 rfl rfl rfl ?_
                                                  refine X_iload_n 3 dL_law_844 rfl rfl ?_
                                                  refine X_iconst (v := (2 : Int32)) dL_law_845 (by decide) ?_
                                                  refine X_iadd dL_law_846 ?_
                                                  refine X_xAtJ b2 i2 dL_law_847 ?_
                                                  refine X_aload_n 0 dL_law_848 rfl rfl rfl ?_
                                                  refine X_iload_n 3 dL_law_849 rfl rfl ?_
                                                  refine X_iconst (v := (3 : Int32)) dL_law_850 (by decide) ?_
                                                  refine X_iadd dL_law_851 ?_
                                                  refine X_xAtJ b3 i3 dL_law_852 ?_
                                                  refine X_callV (ci := 10) (v := some (.int r)) (koX_share 1299 (by decide) hgf.1 e1) ml_L_103 mi_X11_share rfl cf_10 (g_K1 hgf.1) rfl rfl (by decide) ⟨by omega, by omega⟩ (Nat.le_of_ble_eq_true rfl) dL_law_853 ?_
                                                  refine X_aload_n 2 dL_law_856 rfl rfl rfl ?_
                                                  refine X_aload_n 0 dL_law_857 rfl rfl rfl ?_
                                                  refine X_iload_n 3 dL_law_858 rfl rfl ?_
                                                  refine X_iconst (v := (1 : Int32)) dL_law_859 (by decide) ?_
                                                  refine X_iadd dL_law_860 ?_
                                                  refine X_xAtJ b1 i1 dL_law_861 ?_
                                                  refine X_aload_n 0 dL_law_862 rfl rfl rfl ?_
                                                  refine X_iload_n 3 dL_law_863 rfl rfl ?_
                                                  refine X_iconst (v := (2 : Int32)) dL_law_864 (by decide) ?_
                                                  refine X_iadd dL_law_865 ?_
                                                  refine X_xAtJ b2 i2 dL_law_866 ?_
                                                  refine X_aload_n 0 dL_law_867 rfl rfl rfl ?_
                                                  refine X_iload_n 3 dL_law_868 rfl rfl ?_
                                                  refine X_iconst (v := (3 : Int32)) dL_law_869 (by decide) ?_
                                                  refine X_iadd dL_law_870 ?_
                                                  refine X_xAtJ b3 i3 dL_law_871 ?_
                                                  refine X_callV (ci := 11) (v := some (.int r)) (koM_share 1299 (by decide) G1 e2) ml_L_106 mi_X12_share rfl cf_11 (g_K123 G1) rfl rfl (by decide) ⟨by omega, by omega⟩ (Nat.le_of_ble_eq_true rfl) dL_law_872 ?_
                                                  refine X_icmp_eq (tgt := 1236) dL_law_875 (by decide) (fun _ => ?_) (fun c => absurd rfl c)
                                                  exact X_widen (by omega) (by omega) (cont hf h2 hX)
                                                · skip
                                                  rcases Decidable.em (z = (22 : Int32)) with c22 | c22
                                                  · obtain ⟨r, h1, h2, e1, G1, e2, I2⟩ := s22 h (E.2.2.2.2.2.2.2 (6 * k + 1)) (E.2.2.2.2.2.2.2 (6 * k + 2)) hI
                                                    obtain ⟨hf, hX⟩ := ih (k + 1) h2 (by omega) hk3 I2
                                                    refine ⟨hf, head hf ?_⟩
                                                    refine X_swK (off := 847) (tgt := 880) c22 dL_law_33 (by decide) (by decide) (by decide) (by decide) ?_
                                                    refine X_aload_n 1 dL_law_880 rfl rfl rfl ?_
                                                    refine X_aload_n 0 dL_law_881 rfl rfl rfl ?_
                                                    refine X_iload_n 3 dL_law_882 rfl rfl ?_
                                                    refine X_iconst (v := (1 : Int32)) dL_law_883 (by decide) ?_
                                                    refine X_iadd dL_law_884 ?_
                                                    refine X_xAtJ b1 i1 dL_law_885 ?_
                                                    refine X_aload_n 0 dL_law_886 rfl rfl rfl ?_
                                                    refine X_iload_n 3 dL_law_887 rfl rfl ?_
                                                    refine X_iconst (v := (2 : Int32)) dL_law_888 (by decide) ?_
                                                    refine X_iadd dL_law_889 ?_
                                                    refine X_xAtJ b2 i2 dL_law_890 ?_
                                                    refine X_callV (ci := 10) (v := some (.int r)) (koX_then 1299 (by decide) hgf.1 e1) ml_L_107 mi_X11_then rfl cf_10 (g_K1 hgf.1) rfl rfl (by decide) ⟨by omega, by omega⟩ (Nat.le_of_ble_eq_true rfl) dL_law_891 ?_
                                                    refine X_aload_n 2 dL_law_894 rfl rfl rfl ?_
                                                    refine X_aload_n 0 dL_law_895 rfl rfl rfl ?_
                                                    refine X_iload_n 3 dL_law_896 rfl rfl ?_
                                                    refine X_iconst (v := (1 : Int32)) dL_law_897 (by decide) ?_
                                                    refine X_iadd dL_law_898 ?_
                                                    refine X_xAtJ b1 i1 dL_law_899 ?_
                                                    refine X_aload_n 0 dL_law_900 rfl rfl rfl ?_
                                                    refine X_iload_n 3 dL_law_901 rfl rfl ?_
                                                    refine X_iconst (v := (2 : Int32)) dL_law_902 (by decide) ?_
                                                    refine X_iadd dL_law_903 ?_
                                                    refine X_xAtJ b2 i2 dL_law_904 ?_
                                                    refine X_callV (ci := 11) (v := some (.int r)) (koM_then 1299 (by decide) G1 e2) ml_L_110 mi_X12_then rfl cf_11 (g_K123 G1) rfl rfl (by decide) ⟨by omega, by omega⟩ (Nat.le_of_ble_eq_true rfl) dL_law_905 ?_
                                                    refine X_icmp_eq (tgt := 1236) dL_law_908 (by decide) (fun _ => ?_) (fun c => absurd rfl c)
                                                    exact X_widen (by omega) (by omega) (cont hf h2 hX)
                                                  · skip
                                                    rcases Decidable.em (z = (23 : Int32)) with c23 | c23
                                                    · obtain ⟨r, h1, h2, e1, G1, e2, I2⟩ := s23 h (E.2.2.2.2.2.2.2 (6 * k + 1)) (E.2.2.2.2.2.2.2 (6 * k + 2)) hI
                                                      obtain ⟨hf, hX⟩ := ih (k + 1) h2 (by omega) hk3 I2
                                                      refine ⟨hf, head hf ?_⟩
                                                      refine X_swK (off := 880) (tgt := 913) c23 dL_law_33 (by decide) (by decide) (by decide) (by decide) ?_
                                                      refine X_aload_n 1 dL_law_913 rfl rfl rfl ?_
                                                      refine X_aload_n 0 dL_law_914 rfl rfl rfl ?_
                                                      refine X_iload_n 3 dL_law_915 rfl rfl ?_
                                                      refine X_iconst (v := (1 : Int32)) dL_law_916 (by decide) ?_
                                                      refine X_iadd dL_law_917 ?_
                                                      refine X_xAtJ b1 i1 dL_law_918 ?_
                                                      refine X_aload_n 0 dL_law_919 rfl rfl rfl ?_
                                                      refine X_iload_n 3 dL_law_920 rfl rfl ?_
                                                      refine X_iconst (v := (2 : Int32)) dL_law_921 (by decide) ?_
                                                      refine X_iadd dL_law_922 ?_
                                                      refine X_xAtJ b2 i2 dL_law_923 ?_
                                                      refine X_callV (ci := 10) (v := some (.int r)) (koX_byPart 1299 (by decide) hgf.1 e1) ml_L_111 mi_X11_byPart rfl cf_10 (g_K1 hgf.1) rfl rfl (by decide) ⟨by omega, by omega⟩ (Nat.le_of_ble_eq_true rfl) dL_law_924 ?_
                                                      refine X_aload_n 2 dL_law_927 rfl rfl rfl ?_
                                                      refine X_aload_n 0 dL_law_928 rfl rfl rfl ?_
                                                      refine X_iload_n 3 dL_law_929 rfl rfl ?_
                                                      refine X_iconst (v := (1 : Int32)) dL_law_930 (by decide) ?_
                                                      refine X_iadd dL_law_931 ?_
                                                      refine X_xAtJ b1 i1 dL_law_932 ?_
                                                      refine X_aload_n 0 dL_law_933 rfl rfl rfl ?_
                                                      refine X_iload_n 3 dL_law_934 rfl rfl ?_
                                                      refine X_iconst (v := (2 : Int32)) dL_law_935 (by decide) ?_
                                                      refine X_iadd dL_law_936 ?_
                                                      refine X_xAtJ b2 i2 dL_law_937 ?_
                                                      refine X_callV (ci := 11) (v := some (.int r)) (koM_byPart 1299 (by decide) G1 e2) ml_L_114 mi_X12_byPart rfl cf_11 (g_K123 G1) rfl rfl (by decide) ⟨by omega, by omega⟩ (Nat.le_of_ble_eq_true rfl) dL_law_938 ?_
                                                      refine X_icmp_eq (tgt := 1236) dL_law_941 (by decide) (fun _ => ?_) (fun c => absurd rfl c)
                                                      exact X_widen (by omega) (by omega) (cont hf h2 hX)
                                                    · skip
                                                      rcases Decidable.em (z = (24 : Int32)) with c24 | c24
                                                      · obtain ⟨r, h1, h2, e1, G1, e2, I2⟩ := s24 h  hI
                                                        obtain ⟨hf, hX⟩ := ih (k + 1) h2 (by omega) hk3 I2
                                                        refine ⟨hf, head hf ?_⟩
                                                        refine X_swK (off := 913) (tgt := 946) c24 dL_law_33 (by decide) (by decide) (by decide) (by decide) ?_
                                                        refine X_aload_n 1 dL_law_946 rfl rfl rfl ?_
                                                        refine X_callV (ci := 10) (v := some (.int r)) (koX_one 1299 (by decide) hgf.1 e1) ml_L_115 mi_X11_one rfl cf_10 (g_K1 hgf.1) rfl rfl (by decide) ⟨by omega, by omega⟩ (Nat.le_of_ble_eq_true rfl) dL_law_947 ?_
                                                        refine X_aload_n 2 dL_law_950 rfl rfl rfl ?_
                                                        refine X_callV (ci := 11) (v := some (.int r)) (koM_one 1299 (by decide) G1 e2) ml_L_118 mi_X12_one rfl cf_11 (g_K123 G1) rfl rfl (by decide) ⟨by omega, by omega⟩ (Nat.le_of_ble_eq_true rfl) dL_law_951 ?_
                                                        refine X_icmp_eq (tgt := 1236) dL_law_954 (by decide) (fun _ => ?_) (fun c => absurd rfl c)
                                                        exact X_widen (by omega) (by omega) (cont hf h2 hX)
                                                      · skip
                                                        rcases Decidable.em (z = (25 : Int32)) with c25 | c25
                                                        · obtain ⟨r, h1, h2, e1, G1, e2, I2⟩ := s25 h (E.2.2.2.2.2.2.2 (6 * k + 1)) (E.2.2.2.2.2.2.2 (6 * k + 2)) (E.2.2.2.2.2.2.2 (6 * k + 3)) hI
                                                          obtain ⟨hf, hX⟩ := ih (k + 1) h2 (by omega) hk3 I2
                                                          refine ⟨hf, head hf ?_⟩
                                                          refine X_swK (off := 926) (tgt := 959) c25 dL_law_33 (by decide) (by decide) (by decide) (by decide) ?_
                                                          refine X_aload_n 1 dL_law_959 rfl rfl rfl ?_
                                                          refine X_aload_n 0 dL_law_960 rfl rfl rfl ?_
                                                          refine X_iload_n 3 dL_law_961 rfl rfl ?_
                                                          refine X_iconst (v := (1 : Int32)) dL_law_962 (by decide) ?_
                                                          refine X_iadd dL_law_963 ?_
                                                          refine X_xAtJ b1 i1 dL_law_964 ?_
                                                          refine X_aload_n 0 dL_law_965 rfl rfl rfl ?_
                                                          refine X_iload_n 3 dL_law_966 rfl rfl ?_
                                                          refine X_iconst (v := (2 : Int32)) dL_law_967 (by decide) ?_
                                                          refine X_iadd dL_law_968 ?_
                                                          refine X_xAtJ b2 i2 dL_law_969 ?_
                                                          refine X_aload_n 0 dL_law_970 rfl rfl rfl ?_
                                                          refine X_iload_n 3 dL_law_971 rfl rfl ?_
                                                          refine X_iconst (v := (3 : Int32)) dL_law_972 (by decide) ?_
                                                          refine X_iadd dL_law_973 ?_
                                                          refine X_xAtJ b3 i3 dL_law_974 ?_
                                                          refine X_callV (ci := 10) (v := some (.int r)) (koX_log 1299 (by decide) hgf.1 e1) ml_L_119 mi_X11_log rfl cf_10 (g_K1 hgf.1) rfl rfl (by decide) ⟨by omega, by omega⟩ (Nat.le_of_ble_eq_true rfl) dL_law_975 ?_
                                                          refine X_aload_n 2 dL_law_978 rfl rfl rfl ?_
                                                          refine X_aload_n 0 dL_law_979 rfl rfl rfl ?_
                                                          refine X_iload_n 3 dL_law_980 rfl rfl ?_
                                                          refine X_iconst (v := (1 : Int32)) dL_law_981 (by decide) ?_
                                                          refine X_iadd dL_law_982 ?_
                                                          refine X_xAtJ b1 i1 dL_law_983 ?_
                                                          refine X_aload_n 0 dL_law_984 rfl rfl rfl ?_
                                                          refine X_iload_n 3 dL_law_985 rfl rfl ?_
                                                          refine X_iconst (v := (2 : Int32)) dL_law_986 (by decide) ?_
                                                          refine X_iadd dL_law_987 ?_
                                                          refine X_xAtJ b2 i2 dL_law_988 ?_
                                                          refine X_aload_n 0 dL_law_989 rfl rfl rfl ?_
                                                          refine X_iload_n 3 dL_law_990 rfl rfl ?_
                                                          refine X_iconst (v := (3 : Int32)) dL_law_991 (by decide) ?_
                                                          refine X_iadd dL_law_992 ?_
                                                          refine X_xAtJ b3 i3 dL_law_993 ?_
                                                          refine X_callV (ci := 11) (v := some (.int r)) (koM_log 1299 (by decide) G1 e2) ml_L_122 mi_X12_log rfl cf_11 (g_K123 G1) rfl rfl (by decide) ⟨by omega, by omega⟩ (Nat.le_of_ble_eq_true rfl) dL_law_994 ?_
                                                          refine X_icmp_eq (tgt := 1236) dL_law_997 (by decide) (fun _ => ?_) (fun c => absurd rfl c)
                                                          exact X_widen (by omega) (by omega) (cont hf h2 hX)
                                                        · skip
                                                          rcases Decidable.em (z = (26 : Int32)) with c26 | c26
                                                          · obtain ⟨r, h1, h2, e1, G1, e2, I2⟩ := s26 h (E.2.2.2.2.2.2.2 (6 * k + 1)) hI
                                                            obtain ⟨hf, hX⟩ := ih (k + 1) h2 (by omega) hk3 I2
                                                            refine ⟨hf, head hf ?_⟩
                                                            refine X_swK (off := 969) (tgt := 1002) c26 dL_law_33 (by decide) (by decide) (by decide) (by decide) ?_
                                                            refine X_aload_n 1 dL_law_1002 rfl rfl rfl ?_
                                                            refine X_aload_n 0 dL_law_1003 rfl rfl rfl ?_
                                                            refine X_iload_n 3 dL_law_1004 rfl rfl ?_
                                                            refine X_iconst (v := (1 : Int32)) dL_law_1005 (by decide) ?_
                                                            refine X_iadd dL_law_1006 ?_
                                                            refine X_xAtJ b1 i1 dL_law_1007 ?_
                                                            refine X_callV (ci := 10) (v := some (.int r)) (koX_ruled 1299 (by decide) hgf.1 e1) ml_L_123 mi_X11_ruled rfl cf_10 (g_K1 hgf.1) rfl rfl (by decide) ⟨by omega, by omega⟩ (Nat.le_of_ble_eq_true rfl) dL_law_1008 ?_
                                                            refine X_aload_n 2 dL_law_1011 rfl rfl rfl ?_
                                                            refine X_aload_n 0 dL_law_1012 rfl rfl rfl ?_
                                                            refine X_iload_n 3 dL_law_1013 rfl rfl ?_
                                                            refine X_iconst (v := (1 : Int32)) dL_law_1014 (by decide) ?_
                                                            refine X_iadd dL_law_1015 ?_
                                                            refine X_xAtJ b1 i1 dL_law_1016 ?_
                                                            refine X_callV (ci := 11) (v := some (.int r)) (koM_ruled 1299 (by decide) G1 e2) ml_L_126 mi_X12_ruled rfl cf_11 (g_K123 G1) rfl rfl (by decide) ⟨by omega, by omega⟩ (Nat.le_of_ble_eq_true rfl) dL_law_1017 ?_
                                                            refine X_icmp_eq (tgt := 1236) dL_law_1020 (by decide) (fun _ => ?_) (fun c => absurd rfl c)
                                                            exact X_widen (by omega) (by omega) (cont hf h2 hX)
                                                          · skip
                                                            rcases Decidable.em (z = (27 : Int32)) with c27 | c27
                                                            · obtain ⟨r, h1, h2, e1, G1, e2, I2⟩ := s27 h (E.2.2.2.2.2.2.2 (6 * k + 1)) (E.2.2.2.2.2.2.2 (6 * k + 2)) hI
                                                              obtain ⟨hf, hX⟩ := ih (k + 1) h2 (by omega) hk3 I2
                                                              refine ⟨hf, head hf ?_⟩
                                                              refine X_swK (off := 992) (tgt := 1025) c27 dL_law_33 (by decide) (by decide) (by decide) (by decide) ?_
                                                              refine X_aload_n 1 dL_law_1025 rfl rfl rfl ?_
                                                              refine X_aload_n 0 dL_law_1026 rfl rfl rfl ?_
                                                              refine X_iload_n 3 dL_law_1027 rfl rfl ?_
                                                              refine X_iconst (v := (1 : Int32)) dL_law_1028 (by decide) ?_
                                                              refine X_iadd dL_law_1029 ?_
                                                              refine X_xAtJ b1 i1 dL_law_1030 ?_
                                                              refine X_aload_n 0 dL_law_1031 rfl rfl rfl ?_
                                                              refine X_iload_n 3 dL_law_1032 rfl rfl ?_
                                                              refine X_iconst (v := (2 : Int32)) dL_law_1033 (by decide) ?_
                                                              refine X_iadd dL_law_1034 ?_
                                                              refine X_xAtJ b2 i2 dL_law_1035 ?_
                                                              refine X_callV (ci := 10) (v := some (.int r)) (koX_look 1299 (by decide) hgf.1 e1) ml_L_127 mi_X11_look rfl cf_10 (g_K1 hgf.1) rfl rfl (by decide) ⟨by omega, by omega⟩ (Nat.le_of_ble_eq_true rfl) dL_law_1036 ?_
                                                              refine X_aload_n 2 dL_law_1039 rfl rfl rfl ?_
                                                              refine X_aload_n 0 dL_law_1040 rfl rfl rfl ?_
                                                              refine X_iload_n 3 dL_law_1041 rfl rfl ?_
                                                              refine X_iconst (v := (1 : Int32)) dL_law_1042 (by decide) ?_
                                                              refine X_iadd dL_law_1043 ?_
                                                              refine X_xAtJ b1 i1 dL_law_1044 ?_
                                                              refine X_aload_n 0 dL_law_1045 rfl rfl rfl ?_
                                                              refine X_iload_n 3 dL_law_1046 rfl rfl ?_
                                                              refine X_iconst (v := (2 : Int32)) dL_law_1047 (by decide) ?_
                                                              refine X_iadd dL_law_1048 ?_
                                                              refine X_xAtJ b2 i2 dL_law_1049 ?_
                                                              refine X_callV (ci := 11) (v := some (.int r)) (koM_look 1299 (by decide) G1 e2) ml_L_130 mi_X12_look rfl cf_11 (g_K123 G1) rfl rfl (by decide) ⟨by omega, by omega⟩ (Nat.le_of_ble_eq_true rfl) dL_law_1050 ?_
                                                              refine X_icmp_eq (tgt := 1236) dL_law_1053 (by decide) (fun _ => ?_) (fun c => absurd rfl c)
                                                              exact X_widen (by omega) (by omega) (cont hf h2 hX)
                                                            · skip
                                                              rcases Decidable.em (z = (28 : Int32)) with c28 | c28
                                                              · obtain ⟨r, h1, h2, e1, G1, e2, I2⟩ := s28 h (E.2.2.2.2.2.2.2 (6 * k + 1)) (E.2.2.2.2.2.2.2 (6 * k + 2)) (E.2.2.2.2.2.2.2 (6 * k + 3)) hI
                                                                obtain ⟨hf, hX⟩ := ih (k + 1) h2 (by omega) hk3 I2
                                                                refine ⟨hf, head hf ?_⟩
                                                                refine X_swK (off := 1025) (tgt := 1058) c28 dL_law_33 (by decide) (by decide) (by decide) (by decide) ?_
                                                                refine X_aload_n 1 dL_law_1058 rfl rfl rfl ?_
                                                                refine X_aload_n 0 dL_law_1059 rfl rfl rfl ?_
                                                                refine X_iload_n 3 dL_law_1060 rfl rfl ?_
                                                                refine X_iconst (v := (1 : Int32)) dL_law_1061 (by decide) ?_
                                                                refine X_iadd dL_law_1062 ?_
                                                                refine X_xAtJ b1 i1 dL_law_1063 ?_
                                                                refine X_aload_n 0 dL_law_1064 rfl rfl rfl ?_
                                                                refine X_iload_n 3 dL_law_1065 rfl rfl ?_
                                                                refine X_iconst (v := (2 : Int32)) dL_law_1066 (by decide) ?_
                                                                refine X_iadd dL_law_1067 ?_
                                                                refine X_xAtJ b2 i2 dL_law_1068 ?_
                                                                refine X_aload_n 0 dL_law_1069 rfl rfl rfl ?_
                                                                refine X_iload_n 3 dL_law_1070 rfl rfl ?_
                                                                refine X_iconst (v := (3 : Int32)) dL_law_1071 (by decide) ?_
                                                                refine X_iadd dL_law_1072 ?_
                                                                refine X_xAtJ b3 i3 dL_law_1073 ?_
                                                                refine X_callV (ci := 10) (v := some (.int r)) (koX_worth 1299 (by decide) hgf.1 e1) ml_L_131 mi_X11_worth rfl cf_10 (g_K1 hgf.1) rfl rfl (by decide) ⟨by omega, by omega⟩ (Nat.le_of_ble_eq_true rfl) dL_law_1074 ?_
                                                                refine X_aload_n 2 dL_law_1077 rfl rfl rfl ?_
                                                                refine X_aload_n 0 dL_law_1078 rfl rfl rfl ?_
                                                                refine X_iload_n 3 dL_law_1079 rfl rfl ?_
                                                                refine X_iconst (v := (1 : Int32)) dL_law_1080 (by decide) ?_
                                                                refine X_iadd dL_law_1081 ?_
                                                                refine X_xAtJ b1 i1 dL_law_1082 ?_
                                                                refine X_aload_n 0 dL_law_1083 rfl rfl rfl ?_
                                                                refine X_iload_n 3 dL_law_1084 rfl rfl ?_
                                                                refine X_iconst (v := (2 : Int32)) dL_law_1085 (by decide) ?_
                                                                refine X_iadd dL_law_1086 ?_
                                                                refine X_xAtJ b2 i2 dL_law_1087 ?_
                                                                refine X_aload_n 0 dL_law_1088 rfl rfl rfl ?_
                                                                refine X_iload_n 3 dL_law_1089 rfl rfl ?_
                                                                refine X_iconst (v := (3 : Int32)) dL_law_1090 (by decide) ?_
                                                                refine X_iadd dL_law_1091 ?_
                                                                refine X_xAtJ b3 i3 dL_law_1092 ?_
                                                                refine X_callV (ci := 11) (v := some (.int r)) (koM_worth 1299 (by decide) G1 e2) ml_L_134 mi_X12_worth rfl cf_11 (g_K123 G1) rfl rfl (by decide) ⟨by omega, by omega⟩ (Nat.le_of_ble_eq_true rfl) dL_law_1093 ?_
                                                                refine X_icmp_eq (tgt := 1236) dL_law_1096 (by decide) (fun _ => ?_) (fun c => absurd rfl c)
                                                                exact X_widen (by omega) (by omega) (cont hf h2 hX)
                                                              · skip
                                                                rcases Decidable.em (z = (29 : Int32)) with c29 | c29
                                                                · obtain ⟨r, h1, h2, e1, G1, e2, I2⟩ := s29 h (E.2.2.2.2.2.2.2 (6 * k + 1)) hI
                                                                  obtain ⟨hf, hX⟩ := ih (k + 1) h2 (by omega) hk3 I2
                                                                  refine ⟨hf, head hf ?_⟩
                                                                  refine X_swK (off := 1068) (tgt := 1101) c29 dL_law_33 (by decide) (by decide) (by decide) (by decide) ?_
                                                                  refine X_aload_n 1 dL_law_1101 rfl rfl rfl ?_
                                                                  refine X_aload_n 0 dL_law_1102 rfl rfl rfl ?_
                                                                  refine X_iload_n 3 dL_law_1103 rfl rfl ?_
                                                                  refine X_iconst (v := (1 : Int32)) dL_law_1104 (by decide) ?_
                                                                  refine X_iadd dL_law_1105 ?_
                                                                  refine X_xAtJ b1 i1 dL_law_1106 ?_
                                                                  refine X_callV (ci := 10) (v := some (.int r)) (koX_seed 1299 (by decide) hgf.1 e1) ml_L_135 mi_X11_seed rfl cf_10 (g_K1 hgf.1) rfl rfl (by decide) ⟨by omega, by omega⟩ (Nat.le_of_ble_eq_true rfl) dL_law_1107 ?_
                                                                  refine X_aload_n 2 dL_law_1110 rfl rfl rfl ?_
                                                                  refine X_aload_n 0 dL_law_1111 rfl rfl rfl ?_
                                                                  refine X_iload_n 3 dL_law_1112 rfl rfl ?_
                                                                  refine X_iconst (v := (1 : Int32)) dL_law_1113 (by decide) ?_
                                                                  refine X_iadd dL_law_1114 ?_
                                                                  refine X_xAtJ b1 i1 dL_law_1115 ?_
                                                                  refine X_callV (ci := 11) (v := some (.int r)) (koM_seed 1299 (by decide) G1 e2) ml_L_138 mi_X12_seed rfl cf_11 (g_K123 G1) rfl rfl (by decide) ⟨by omega, by omega⟩ (Nat.le_of_ble_eq_true rfl) dL_law_1116 ?_
                                                                  refine X_icmp_eq (tgt := 1236) dL_law_1119 (by decide) (fun _ => ?_) (fun c => absurd rfl c)
                                                                  exact X_widen (by omega) (by omega) (cont hf h2 hX)
                                                                · skip
                                                                  rcases Decidable.em (z = (30 : Int32)) with c30 | c30
                                                                  · obtain ⟨r, h1, h2, e1, G1, e2, I2⟩ := s30 h (E.2.2.2.2.2.2.2 (6 * k + 1)) (E.2.2.2.2.2.2.2 (6 * k + 2)) (E.2.2.2.2.2.2.2 (6 * k + 3)) hI
                                                                    obtain ⟨hf, hX⟩ := ih (k + 1) h2 (by omega) hk3 I2
                                                                    refine ⟨hf, head hf ?_⟩
                                                                    refine X_swK (off := 1091) (tgt := 1124) c30 dL_law_33 (by decide) (by decide) (by decide) (by decide) ?_
                                                                    refine X_aload_n 1 dL_law_1124 rfl rfl rfl ?_
                                                                    refine X_aload_n 0 dL_law_1125 rfl rfl rfl ?_
                                                                    refine X_iload_n 3 dL_law_1126 rfl rfl ?_
                                                                    refine X_iconst (v := (1 : Int32)) dL_law_1127 (by decide) ?_
                                                                    refine X_iadd dL_law_1128 ?_
                                                                    refine X_xAtJ b1 i1 dL_law_1129 ?_
                                                                    refine X_aload_n 0 dL_law_1130 rfl rfl rfl ?_
                                                                    refine X_iload_n 3 dL_law_1131 rfl rfl ?_
                                                                    refine X_iconst (v := (2 : Int32)) dL_law_1132 (by decide) ?_
                                                                    refine X_iadd dL_law_1133 ?_
                                                                    refine X_xAtJ b2 i2 dL_law_1134 ?_
                                                                    refine X_aload_n 0 dL_law_1135 rfl rfl rfl ?_
                                                                    refine X_iload_n 3 dL_law_1136 rfl rfl ?_
                                                                    refine X_iconst (v := (3 : Int32)) dL_law_1137 (by decide) ?_
                                                                    refine X_iadd dL_law_1138 ?_
                                                                    refine X_xAtJ b3 i3 dL_law_1139 ?_
                                                                    refine X_callV (ci := 10) (v := some (.int r)) (koX_years 1299 (by decide) hgf.1 e1) ml_L_139 mi_X11_years rfl cf_10 (g_K1 hgf.1) rfl rfl (by decide) ⟨by omega, by omega⟩ (Nat.le_of_ble_eq_true rfl) dL_law_1140 ?_
                                                                    refine X_aload_n 2 dL_law_1143 rfl rfl rfl ?_
                                                                    refine X_aload_n 0 dL_law_1144 rfl rfl rfl ?_
                                                                    refine X_iload_n 3 dL_law_1145 rfl rfl ?_
                                                                    refine X_iconst (v := (1 : Int32)) dL_law_1146 (by decide) ?_
                                                                    refine X_iadd dL_law_1147 ?_
                                                                    refine X_xAtJ b1 i1 dL_law_1148 ?_
                                                                    refine X_aload_n 0 dL_law_1149 rfl rfl rfl ?_
                                                                    refine X_iload_n 3 dL_law_1150 rfl rfl ?_
                                                                    refine X_iconst (v := (2 : Int32)) dL_law_1151 (by decide) ?_
                                                                    refine X_iadd dL_law_1152 ?_
                                                                    refine X_xAtJ b2 i2 dL_law_1153 ?_
                                                                    refine X_aload_n 0 dL_law_1154 rfl rfl rfl ?_
                                                                    refine X_iload_n 3 dL_law_1155 rfl rfl ?_
                                                                    refine X_iconst (v := (3 : Int32)) dL_law_1156 (by decide) ?_
                                                                    refine X_iadd dL_law_1157 ?_
                                                                    refine X_xAtJ b3 i3 dL_law_1158 ?_
                                                                    refine X_callV (ci := 11) (v := some (.int r)) (koM_years 1299 (by decide) G1 e2) ml_L_142 mi_X12_years rfl cf_11 (g_K123 G1) rfl rfl (by decide) ⟨by omega, by omega⟩ (Nat.le_of_ble_eq_true rfl) dL_law_1159 ?_
                                                                    refine X_icmp_eq (tgt := 1236) dL_law_1162 (by decide) (fun _ => ?_) (fun c => absurd rfl c)
                                                                    exact X_widen (by omega) (by omega) (cont hf h2 hX)
                                                                  · skip
                                                                    rcases Decidable.em (z = (31 : Int32)) with c31 | c31
                                                                    · obtain ⟨r, h1, h2, e1, G1, e2, I2⟩ := s31 h (E.2.2.2.2.2.2.2 (6 * k + 1)) hI
                                                                      obtain ⟨hf, hX⟩ := ih (k + 1) h2 (by omega) hk3 I2
                                                                      refine ⟨hf, head hf ?_⟩
                                                                      refine X_swK (off := 1134) (tgt := 1167) c31 dL_law_33 (by decide) (by decide) (by decide) (by decide) ?_
                                                                      refine X_aload_n 1 dL_law_1167 rfl rfl rfl ?_
                                                                      refine X_aload_n 0 dL_law_1168 rfl rfl rfl ?_
                                                                      refine X_iload_n 3 dL_law_1169 rfl rfl ?_
                                                                      refine X_iconst (v := (1 : Int32)) dL_law_1170 (by decide) ?_
                                                                      refine X_iadd dL_law_1171 ?_
                                                                      refine X_xAtJ b1 i1 dL_law_1172 ?_
                                                                      refine X_callV (ci := 10) (v := some (.int r)) (koX_count 1299 (by decide) hgf.1 e1) ml_L_143 mi_X11_count rfl cf_10 (g_K1 hgf.1) rfl rfl (by decide) ⟨by omega, by omega⟩ (Nat.le_of_ble_eq_true rfl) dL_law_1173 ?_
                                                                      refine X_aload_n 2 dL_law_1176 rfl rfl rfl ?_
                                                                      refine X_aload_n 0 dL_law_1177 rfl rfl rfl ?_
                                                                      refine X_iload_n 3 dL_law_1178 rfl rfl ?_
                                                                      refine X_iconst (v := (1 : Int32)) dL_law_1179 (by decide) ?_
                                                                      refine X_iadd dL_law_1180 ?_
                                                                      refine X_xAtJ b1 i1 dL_law_1181 ?_
                                                                      refine X_callV (ci := 11) (v := some (.int r)) (koM_count 1299 (by decide) G1 e2) ml_L_146 mi_X12_count rfl cf_11 (g_K123 G1) rfl rfl (by decide) ⟨by omega, by omega⟩ (Nat.le_of_ble_eq_true rfl) dL_law_1182 ?_
                                                                      refine X_icmp_eq (tgt := 1236) dL_law_1185 (by decide) (fun _ => ?_) (fun c => absurd rfl c)
                                                                      exact X_widen (by omega) (by omega) (cont hf h2 hX)
                                                                    · skip
                                                                      rcases Decidable.em (z = (32 : Int32)) with c32 | c32
                                                                      · obtain ⟨r, h1, h2, e1, G1, e2, I2⟩ := s32 h (E.2.2.2.2.2.2.2 (6 * k + 1)) hI
                                                                        obtain ⟨hf, hX⟩ := ih (k + 1) h2 (by omega) hk3 I2
                                                                        refine ⟨hf, head hf ?_⟩
                                                                        refine X_swK (off := 1157) (tgt := 1190) c32 dL_law_33 (by decide) (by decide) (by decide) (by decide) ?_
                                                                        refine X_aload_n 1 dL_law_1190 rfl rfl rfl ?_
                                                                        refine X_aload_n 0 dL_law_1191 rfl rfl rfl ?_
                                                                        refine X_iload_n 3 dL_law_1192 rfl rfl ?_
                                                                        refine X_iconst (v := (1 : Int32)) dL_law_1193 (by decide) ?_
                                                                        refine X_iadd dL_law_1194 ?_
                                                                        refine X_xAtJ b1 i1 dL_law_1195 ?_
                                                                        refine X_callV (ci := 10) (v := some (.int r)) (kX11_image 1299 (by decide) hgf.1 hgf.2 e1) ml_L_147 mi_X11_image rfl cf_10 (g_K1 hgf.1) rfl rfl (by decide) ⟨by omega, by omega⟩ (Nat.le_of_ble_eq_true rfl) dL_law_1196 ?_
                                                                        refine X_aload_n 2 dL_law_1199 rfl rfl rfl ?_
                                                                        refine X_aload_n 0 dL_law_1200 rfl rfl rfl ?_
                                                                        refine X_iload_n 3 dL_law_1201 rfl rfl ?_
                                                                        refine X_iconst (v := (1 : Int32)) dL_law_1202 (by decide) ?_
                                                                        refine X_iadd dL_law_1203 ?_
                                                                        refine X_xAtJ b1 i1 dL_law_1204 ?_
                                                                        refine X_callV (ci := 11) (v := some (.int r)) (koM_image 1299 (by decide) G1 e2) ml_L_150 mi_X12_image rfl cf_11 (g_K123 G1) rfl rfl (by decide) ⟨by omega, by omega⟩ (Nat.le_of_ble_eq_true rfl) dL_law_1205 ?_
                                                                        refine X_icmp_eq (tgt := 1236) dL_law_1208 (by decide) (fun _ => ?_) (fun c => absurd rfl c)
                                                                        exact X_widen (by omega) (by omega) (cont hf h2 hX)
                                                                      · skip
                                                                        rcases Decidable.em (z = (33 : Int32)) with c33 | c33
                                                                        · obtain ⟨r, h1, h2, e1, G1, e2, I2⟩ := s33 h (E.2.2.2.2.2.2.2 (6 * k + 1)) hI
                                                                          obtain ⟨hf, hX⟩ := ih (k + 1) h2 (by omega) hk3 I2
                                                                          refine ⟨hf, head hf ?_⟩
                                                                          refine X_swK (off := 1180) (tgt := 1213) c33 dL_law_33 (by decide) (by decide) (by decide) (by decide) ?_
                                                                          refine X_aload_n 1 dL_law_1213 rfl rfl rfl ?_
                                                                          refine X_aload_n 0 dL_law_1214 rfl rfl rfl ?_
                                                                          refine X_iload_n 3 dL_law_1215 rfl rfl ?_
                                                                          refine X_iconst (v := (1 : Int32)) dL_law_1216 (by decide) ?_
                                                                          refine X_iadd dL_law_1217 ?_
                                                                          refine X_xAtJ b1 i1 dL_law_1218 ?_
                                                                          refine X_callV (ci := 10) (v := some (.int r)) (koX_back 1299 (by decide) hgf.1 e1) ml_L_151 mi_X11_back rfl cf_10 (g_K1 hgf.1) rfl rfl (by decide) ⟨by omega, by omega⟩ (Nat.le_of_ble_eq_true rfl) dL_law_1219 ?_
                                                                          refine X_aload_n 2 dL_law_1222 rfl rfl rfl ?_
                                                                          refine X_aload_n 0 dL_law_1223 rfl rfl rfl ?_
                                                                          refine X_iload_n 3 dL_law_1224 rfl rfl ?_
                                                                          refine X_iconst (v := (1 : Int32)) dL_law_1225 (by decide) ?_
                                                                          refine X_iadd dL_law_1226 ?_
                                                                          refine X_xAtJ b1 i1 dL_law_1227 ?_
                                                                          refine X_callV (ci := 11) (v := some (.int r)) (koM_back 1299 (by decide) G1 e2) ml_L_154 mi_X12_back rfl cf_11 (g_K123 G1) rfl rfl (by decide) ⟨by omega, by omega⟩ (Nat.le_of_ble_eq_true rfl) dL_law_1228 ?_
                                                                          refine X_icmp_eq (tgt := 1236) dL_law_1231 (by decide) (fun _ => ?_) (fun c => absurd rfl c)
                                                                          exact X_widen (by omega) (by omega) (cont hf h2 hX)
                                                                        · skip
                                                                          obtain ⟨hf, hX⟩ := ih (k + 1) h (by omega) hk3 (hM k h hI)
                                                                          refine ⟨hf, head hf ?_⟩
                                                                          refine X_tableOut (tgt := 1236) dL_law_33 (sw_out 34 (by decide) (fun i hi => by
                                                                            have hi2 : i = 0 ∨ i = 1 ∨ i = 2 ∨ i = 3 ∨ i = 4 ∨ i = 5 ∨ i = 6 ∨ i = 7 ∨ i = 8 ∨ i = 9 ∨ i = 10 ∨ i = 11 ∨ i = 12 ∨ i = 13 ∨ i = 14 ∨ i = 15 ∨ i = 16 ∨ i = 17 ∨ i = 18 ∨ i = 19 ∨ i = 20 ∨ i = 21 ∨ i = 22 ∨ i = 23 ∨ i = 24 ∨ i = 25 ∨ i = 26 ∨ i = 27 ∨ i = 28 ∨ i = 29 ∨ i = 30 ∨ i = 31 ∨ i = 32 ∨ i = 33 := by omega
                                                                            rcases hi2 with rfl | rfl | rfl | rfl | rfl | rfl | rfl | rfl | rfl | rfl | rfl | rfl | rfl | rfl | rfl | rfl | rfl | rfl | rfl | rfl | rfl | rfl | rfl | rfl | rfl | rfl | rfl | rfl | rfl | rfl | rfl | rfl | rfl | rfl
                                                                            · exact c0
                                                                            · exact c1
                                                                            · exact c2
                                                                            · exact c3
                                                                            · exact c4
                                                                            · exact c5
                                                                            · exact c6
                                                                            · exact c7
                                                                            · exact c8
                                                                            · exact c9
                                                                            · exact c10
                                                                            · exact c11
                                                                            · exact c12
                                                                            · exact c13
                                                                            · exact c14
                                                                            · exact c15
                                                                            · exact c16
                                                                            · exact c17
                                                                            · exact c18
                                                                            · exact c19
                                                                            · exact c20
                                                                            · exact c21
                                                                            · exact c22
                                                                            · exact c23
                                                                            · exact c24
                                                                            · exact c25
                                                                            · exact c26
                                                                            · exact c27
                                                                            · exact c28
                                                                            · exact c29
                                                                            · exact c30
                                                                            · exact c31
                                                                            · exact c32
                                                                            · exact c33)) (by decide) ?_
                                                                          exact X_widen (by omega) (by omega) (cont hf h hX)

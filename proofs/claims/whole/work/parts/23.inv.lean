/-! what holds between two calls: the class's cells and the model's tell the same -/
/-- a book: strips (name, colours of the picks), cloths (name, parts: strip, shift, turned) -/
abbrev BkS : Type := Nat × List Nat
abbrev BkP : Type := Nat × Nat × Bool
abbrev BkC : Type := Nat × List BkP
abbrev Bk : Type := List BkS × List BkC
/-- where each block of a row of colours ends -/
def bk_ends : Nat → List Nat → List Nat
  | _, [] => []
  | n, [_] => [n + 1]
  | n, a :: b :: r => if a = b then bk_ends (n + 1) (b :: r) else (n + 1) :: bk_ends (n + 1) (b :: r)
def bk_ok (B : Bk) : Prop := B.1.length ≤ 12 ∧ B.2.length ≤ 6 ∧ (∀ s ∈ B.1, s.1 < 26 ∧ 1 ≤ s.2.length ∧ s.2.length ≤ 400 ∧ ∀ c ∈ s.2, c < 8) ∧ ∀ c ∈ B.2, c.1 < 26 ∧ 1 ≤ c.2.length ∧ c.2.length ≤ 12 ∧ ∀ p ∈ c.2, p.1 < B.1.length ∧ p.2.1 ≤ 50
def bI (b : Bool) : Int32 := if b then 1 else 0
/-- a cell of books, and there -/
def dyn (h : pm_H) (a : Nat) : Prop := (a = 8 ∨ a = 9 ∨ a = 10 ∨ 76 ≤ a) ∧ a < zn h
/-- a STRIP at a cell -/
def atS (h : pm_H) (p : Nat) (s : BkS) : Prop := dyn h p ∧ zT h p = 9 ∧ zI h p 0 = nI s.1 ∧ ∃ pa ea, zR h p 1 = some pa ∧ dyn h pa ∧ zT h pa = 101 ∧ zN h pa = s.2.length ∧ (∀ k, k < s.2.length → zI h pa k = nI (s.2.getD k 0)) ∧ zR h p 2 = some ea ∧ dyn h ea ∧ zT h ea = 100 ∧ zN h ea = (bk_ends 0 s.2).length ∧ ∀ k, k < (bk_ends 0 s.2).length → zI h ea k = nI ((bk_ends 0 s.2).getD k 0)
/-- a PART at a cell; sa: the strips' array -/
def atP (h : pm_H) (sa : Nat) (S : List BkS) (q : Nat) (p : BkP) : Prop := dyn h q ∧ zT h q = 5 ∧ (∃ b, zR h q 0 = some b ∧ zR h sa p.1 = some b) ∧ zI h q 1 = nI p.1 ∧ zI h q 2 = bI p.2.2 ∧ zI h q 3 = nI p.2.1
def atC (h : pm_H) (sa : Nat) (S : List BkS) (q : Nat) (c : BkC) : Prop := dyn h q ∧ zT h q = 3 ∧ zI h q 0 = nI c.1 ∧ zI h q 2 = nI c.2.length ∧ ∃ pa, zR h q 1 = some pa ∧ dyn h pa ∧ zT h pa = 105 ∧ zN h pa = 12 ∧ ∀ k (hk : k < c.2.length), ∃ w, zR h pa k = some w ∧ atP h sa S w c.2[k]
/-- the class's book, at the cell b -/
def atB (h : pm_H) (b : Nat) (B : Bk) : Prop := dyn h b ∧ zT h b = 2 ∧ zI h b 1 = nI B.1.length ∧ zI h b 3 = nI B.2.length ∧ ∃ sa ca, zR h b 0 = some sa ∧ dyn h sa ∧ zT h sa = 103 ∧ zN h sa = 12 ∧ zR h b 2 = some ca ∧ dyn h ca ∧ zT h ca = 104 ∧ zN h ca = 6 ∧ (∀ s (hs : s < B.1.length), ∃ p, zR h sa s = some p ∧ atS h p B.1[s]) ∧ ∀ c (hc : c < B.2.length), ∃ q, zR h ca c = some q ∧ atC h sa B.1 q B.2[c]
def I_cb (h : pm_H) (B : Bk) : Prop := ∃ b, zR h 0 2 = some b ∧ atB h b B
/-- the model's book -/
def I_mb (B : Bk) (m15 m16 : Int32) (r37 r38 r39 r40 r41 r42 r43 r45 : Nat → Int32) : Prop := m15 = nI B.1.length ∧ m16 = nI B.2.length ∧ (∀ s (hs : s < B.1.length), r37 s = nI (B.1[s].1 + 1) ∧ r38 s = nI B.1[s].2.length ∧ ∀ k, k < B.1[s].2.length → r45 (400 * s + k) = nI (B.1[s].2.getD k 0)) ∧
  ∀ c (hc : c < B.2.length), r39 c = nI (B.2[c].1 + 1) ∧ r40 c = nI B.2[c].2.length ∧ ∀ k (hk : k < B.2[c].2.length), r41 (12 * c + k) = nI B.2[c].2[k].1 ∧ r42 (12 * c + k) = nI B.2[c].2[k].2.1 ∧ r43 (12 * c + k) = bI B.2[c].2[k].2.2
def I_num (a0 a11 a12 f1 f2 m0 m37 m38 m5 m6 : Int32) : Prop := a0 = m0 ∧ a11 = m37 ∧ a12 = m38 ∧ (∃ w, 1 ≤ w ∧ w ≤ 500 ∧ a11 = nI w) ∧ (∃ u, u ≤ 50 ∧ a12 = nI u) ∧ f1 = m5 ∧ f2 = m6
def I_out (a10 m49 : Int32) (r34 r62 : Nat → Int32) : Prop := ∃ n, n ≤ 12 ∧ a10 = nI n ∧ m49 = nI n ∧ ∀ j, j < n → r34 j = r62 j
def I_lot (c2 m39 : Int32) (r21 r22 r55 r56 : Nat → Int32) : Prop := ∃ n, n ≤ 6 ∧ c2 = nI n ∧ m39 = nI n ∧ ∀ j, j < n → r21 j = r55 j ∧ r22 j = r56 j ∧ (∃ c, c < 8 ∧ r21 j = nI c) ∧ ∃ y, y ≤ 1000000 ∧ r22 j = nI y
def I_rgt (c5 m42 : Int32) (r28 r29 r30 r31 r32 r57 r58 r59 r60 r61 : Nat → Int32) : Prop := ∃ n, n ≤ 60 ∧ c5 = nI n ∧ m42 = nI n ∧ ∀ j, j < n → r28 j = r57 j ∧ r29 j = r58 j ∧ r30 j = r59 j ∧ r31 j = r60 j ∧ r32 j = r61 j ∧ ∃ t, t < 10000 ∧ r32 j = nI t
def I_tap (t1 m3 : Int32) (r3 r36 : Nat → Int32) : Prop := ∃ n, n ≤ 800 ∧ t1 = nI n ∧ m3 = nI n ∧ ∀ j, j < n → r3 j = r36 j ∧ (r3 j).toInt8.toInt32 = r3 j
/-- scratch rows that keep a range: the weave's picks are colours, the ways of BEST SHIFTS are ways -/
def I_scr (r5 r16 : Nat → Int32) : Prop := (∀ j, ∃ c, c < 8 ∧ r5 j = nI c) ∧ ∀ j, ∃ w, w < 42 ∧ r16 j = nI w
def INV (h : pm_H) : Prop := SK h ∧ I_num (zI h 0 0) (zI h 0 11) (zI h 0 12) (zI h 1 1) (zI h 1 2) (zI h 35 0) (zI h 35 37) (zI h 35 38) (zI h 35 5) (zI h 35 6) ∧ I_out (zI h 0 10) (zI h 35 49) (zI h 34) (zI h 62) ∧ I_lot (zI h 20 2) (zI h 35 39) (zI h 21) (zI h 22) (zI h 55) (zI h 56) ∧ I_rgt (zI h 27 5) (zI h 35 42) (zI h 28) (zI h 29) (zI h 30) (zI h 31) (zI h 32) (zI h 57) (zI h 58) (zI h 59) (zI h 60) (zI h 61) ∧ I_tap (zI h 2 1) (zI h 35 3) (zI h 3) (zI h 36) ∧ I_scr (zI h 5) (zI h 16) ∧ ∃ B, bk_ok B ∧ I_cb h B ∧ I_mb B (zI h 35 15) (zI h 35 16) (zI h 37) (zI h 38) (zI h 39) (zI h 40) (zI h 41) (zI h 42) (zI h 43) (zI h 45)
/-- the class's book stays where the cells of books stay -/
def sameD (h g : pm_H) : Prop := (∀ a, dyn h a → zT g a = zT h a ∧ zN g a = zN h a ∧ zI g a = zI h a ∧ zR g a = zR h a) ∧ zR g 0 2 = zR h 0 2 ∧ zn h ≤ zn g
theorem dyn.up {h g : pm_H} {a : Nat} (k : dyn h a) (hd : sameD h g) : dyn g a := ⟨k.1, Nat.lt_of_lt_of_le k.2 hd.2.2⟩
theorem atS.keep {h g : pm_H} (hd : sameD h g) {p : Nat} {s : BkS} (k : atS h p s) : atS g p s := by
  obtain ⟨k1, k2, k3, pa, ea, k4, k5, k6, k7, k8, k9, k10, k11, k12, k13⟩ := k
  obtain ⟨a1, a2, a3, a4⟩ := hd.1 p k1
  obtain ⟨b1, b2, b3, b4⟩ := hd.1 pa k5
  obtain ⟨c1, c2, c3, c4⟩ := hd.1 ea k10
  exact ⟨k1.up hd, by rw [a1]; exact k2, by rw [a3]; exact k3, pa, ea, by rw [a4]; exact k4, k5.up hd, by rw [b1]; exact k6, by rw [b2]; exact k7, by rw [b3]; exact k8, by rw [a4]; exact k9, k10.up hd, by rw [c1]; exact k11, by rw [c2]; exact k12, by rw [c3]; exact k13⟩
theorem atB.keep {h g : pm_H} (hd : sameD h g) {b : Nat} {B : Bk} (k : atB h b B) : atB g b B := by
  obtain ⟨k1, k2, k3, k4, sa, ca, k5, k6, k7, k8, k9, k10, k11, k12, k13, k14⟩ := k
  obtain ⟨a1, a2, a3, a4⟩ := hd.1 b k1
  obtain ⟨b1, b2, b3, b4⟩ := hd.1 sa k6
  obtain ⟨c1, c2, c3, c4⟩ := hd.1 ca k10
  refine ⟨k1.up hd, by rw [a1]; exact k2, by rw [a3]; exact k3, by rw [a3]; exact k4, sa, ca, by rw [a4]; exact k5, k6.up hd, by rw [b1]; exact k7, by rw [b2]; exact k8, by rw [a4]; exact k9, k10.up hd, by rw [c1]; exact k11, by rw [c2]; exact k12, fun s hs => ?_, fun c hc => ?_⟩
  · obtain ⟨p, q1, q2⟩ := k13 s hs
    exact ⟨p, by rw [b4]; exact q1, q2.keep hd⟩
  · obtain ⟨q, q1, e1, e2, e3, e4, pa, e5, e6, e7, e8, e9⟩ := k14 c hc
    obtain ⟨d1, d2, d3, d4⟩ := hd.1 q e1
    obtain ⟨f1, f2, f3, f4⟩ := hd.1 pa e6
    refine ⟨q, by rw [c4]; exact q1, e1.up hd, by rw [d1]; exact e2, by rw [d3]; exact e3, by rw [d3]; exact e4, pa, by rw [d4]; exact e5, e6.up hd, by rw [f1]; exact e7, by rw [f2]; exact e8, fun k hk => ?_⟩
    obtain ⟨w, w1, w2, w3, ⟨b', w4, w5⟩, w6, w7, w8⟩ := e9 k hk
    obtain ⟨g1, g2, g3, g4⟩ := hd.1 w w2
    exact ⟨w, by rw [f4]; exact w1, w2.up hd, by rw [g1]; exact w3, ⟨b', by rw [g4]; exact w4, by rw [b4]; exact w5⟩, by rw [g3]; exact w6, by rw [g3]; exact w7, by rw [g3]; exact w8⟩
theorem I_cb.keep {h g : pm_H} {B : Bk} (k : I_cb h B) (hd : sameD h g) : I_cb g B := by
  obtain ⟨b, k1, k2⟩ := k
  exact ⟨b, by rw [hd.2.1]; exact k1, k2.keep hd⟩
/-- a static row that is no book's -/
def stc (a : Nat) : Bool := Nat.blt a 76 && !(Nat.beq a 8 || Nat.beq a 9 || Nat.beq a 10)
theorem stc_ne {h : pm_H} {a b : Nat} (ha : stc a = true) (hb : dyn h b) : b ≠ a := by
  intro e
  subst e
  simp only [stc, Bool.and_eq_true, Bool.not_eq_true', Bool.or_eq_false_iff] at ha
  obtain ⟨h1, ⟨h2, h3⟩, h4⟩ := ha
  have h1' : b < 76 := Nat.le_of_ble_eq_true h1
  rcases hb.1 with rfl | rfl | rfl | q
  · cases h2
  · cases h3
  · cases h4
  · omega
theorem sameD.rf {h : pm_H} : sameD h h := ⟨fun _ _ => ⟨rfl, rfl, rfl, rfl⟩, rfl, Nat.le_refl _⟩
theorem sameD.A {h g : pm_H} (k : sameD h g) (a : Nat) (f : Nat → Int32) (ha : stc a = true := by rfl) : sameD h (yA g a f) := ⟨fun b hb => ⟨(k.1 b hb).1, (k.1 b hb).2.1, (zI_yAn g f (stc_ne ha hb)).trans (k.1 b hb).2.2.1, (k.1 b hb).2.2.2⟩, k.2⟩
theorem sameD.I {h g : pm_H} (k : sameD h g) (a i : Nat) (v : Int32) (ha : stc a = true := by rfl) : sameD h (yI g a i v) := k.A a _ ha
theorem sameD.J {h g : pm_H} (k : sameD h g) (a i : Nat) (v : Int64) : sameD h (yJ g a i v) := k
theorem sameD.tr {h g f : pm_H} (k1 : sameD h g) (k2 : sameD g f) : sameD h f := ⟨fun a ha => have hb := ha.up k1; ⟨(k2.1 a hb).1.trans (k1.1 a ha).1, (k2.1 a hb).2.1.trans (k1.1 a ha).2.1, (k2.1 a hb).2.2.1.trans (k1.1 a ha).2.2.1, (k2.1 a hb).2.2.2.trans (k1.1 a ha).2.2.2⟩, k2.2.1.trans k1.2.1, Nat.le_trans k1.2.2 k2.2.2⟩
theorem zI_yI (h : pm_H) (a k : Nat) (v : Int32) (b : Nat) : zI (yI h a k v) b = if b = a then va_up (zI h a) k v else zI h b := by
  by_cases q : b = a
  · subst q; rw [if_pos rfl]; exact zI_yAs _ _ _
  · rw [if_neg q]; exact zI_yAn _ _ q
theorem va_upA {α : Type} (f : Nat → α) (k : Nat) (v : α) (j : Nat) : va_up f k v j = if j = k then v else f j := by
  by_cases q : j = k
  · subst q; rw [if_pos rfl]; exact va_upS _ _ _
  · rw [if_neg q]; exact va_upN _ _ q
/-- a heap that differs from another one in the ints of some rows alone -/
def Same (L : List Nat) (h g : pm_H) : Prop := (∀ a, a ∉ L → zI g a = zI h a) ∧ (∀ a, zT g a = zT h a) ∧ (∀ a, zN g a = zN h a) ∧ (∀ a, zR g a = zR h a) ∧ (∀ a, zJ g a = zJ h a) ∧ zn g = zn h ∧ zk g = zk h
theorem Same.rf {L : List Nat} {h : pm_H} : Same L h h := ⟨fun _ _ => rfl, fun _ => rfl, fun _ => rfl, fun _ => rfl, fun _ => rfl, rfl, rfl⟩
theorem Same.I {L : List Nat} {h g : pm_H} (k : Same L h g) (a i : Nat) (v : Int32) (ha : a ∈ L) : Same L h (yI g a i v) :=
  ⟨fun b hb => (zI_yAn g _ (fun e => hb (by rw [e]; exact ha))).trans (k.1 b hb), k.2.1, k.2.2.1, k.2.2.2.1, k.2.2.2.2.1, k.2.2.2.2.2.1, k.2.2.2.2.2.2⟩
theorem Same.tr {L M : List Nat} {h g f : pm_H} (k1 : Same L h g) (k2 : Same M g f) : Same (L ++ M) h f :=
  ⟨fun b hb => (k2.1 b (fun q => hb (List.mem_append_right _ q))).trans (k1.1 b (fun q => hb (List.mem_append_left _ q))), fun a => (k2.2.1 a).trans (k1.2.1 a), fun a => (k2.2.2.1 a).trans (k1.2.2.1 a), fun a => (k2.2.2.2.1 a).trans (k1.2.2.2.1 a), fun a => (k2.2.2.2.2.1 a).trans (k1.2.2.2.2.1 a), k2.2.2.2.2.2.1.trans k1.2.2.2.2.2.1, k2.2.2.2.2.2.2.trans k1.2.2.2.2.2.2⟩
theorem Same.SK {L : List Nat} {h g : pm_H} (k : Same L h g) (s : SK h) : SK g :=
  ⟨fun a ha => (k.2.1 a).trans (s.1 a ha), fun a ha => (k.2.2.1 a).trans (s.2.1 a ha), fun a i hi => (congrFun (k.2.2.2.1 a) i).trans (s.2.2.1 a i hi), by rw [k.2.2.2.2.2.1]; exact s.2.2.2⟩
theorem Same.D {L : List Nat} {h g : pm_H} (k : Same L h g) (hL : ∀ a ∈ L, stc a = true) : sameD h g :=
  ⟨fun a ha => ⟨k.2.1 a, k.2.2.1 a, k.1 a (fun q => stc_ne (hL a q) ha rfl), k.2.2.2.1 a⟩, congrFun (k.2.2.2.1 0) 2, Nat.le_of_eq k.2.2.2.2.2.1.symm⟩
/-- two calls, the class's and the model's, with one answer -/
def PAIR (mi mj : Nat) (as : List Value) (h : pm_H) : Prop := WP mi 0 (pm_ent (pm_L mi) (.ref 0 :: as)) [] h (fun v1 h1 => WP mj 0 (pm_ent (pm_L mj) (.ref 35 :: as)) [] h1 (fun v2 h2 => v1 = v2 ∧ INV h2 ∧ (∃ x, v1 = some (.int x)) ∧ zn h2 ≤ zn h + 200 ∧ zk h2 ≤ zk h + 14000))

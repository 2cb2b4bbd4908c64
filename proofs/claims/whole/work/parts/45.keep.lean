/-! what reading calls leave -/
def scr (x : Bool) (a : Nat) : Bool := Nat.beq a 11 || (Nat.ble 13 a && Nat.ble a 15) || (Nat.ble 18 a && Nat.ble a 19) || (Nat.ble 23 a && Nat.ble a 26) || Nat.beq a 33 || (Nat.ble 63 a && Nat.ble a 75) || (x && (Nat.beq a 16 || Nat.beq a 34 || Nat.beq a 62))
def fl0 (x : Bool) (k : Nat) : Bool := Nat.beq k 0 || (x && Nat.beq k 10)
def fl35 (x : Bool) (k : Nat) : Bool := Nat.beq k 0 || Nat.beq k 1 || Nat.beq k 63 || Nat.beq k 64 || (x && Nat.beq k 49)
/-- only scratch rows (x: and what OUT tells) differ -/
def Kp (x : Bool) (h g : pm_H) : Prop := (∀ a, scr x a = false → a ≠ 0 → a ≠ 35 → zI g a = zI h a) ∧ (∀ k, fl0 x k = false → zI g 0 k = zI h 0 k) ∧ (∀ k, fl35 x k = false → zI g 35 k = zI h 35 k) ∧ (∀ a, zT g a = zT h a) ∧ (∀ a, zN g a = zN h a) ∧ (∀ a, zR g a = zR h a) ∧ zn g = zn h ∧ zk g = zk h
theorem Kp.rf {x : Bool} {h : pm_H} : Kp x h h := ⟨fun _ _ _ _ => rfl, fun _ _ => rfl, fun _ _ => rfl, fun _ => rfl, fun _ => rfl, fun _ => rfl, rfl, rfl⟩
theorem Kp.tr {x : Bool} {h g f : pm_H} (p : Kp x h g) (q : Kp x g f) : Kp x h f :=
  ⟨fun a h1 h2 h3 => (q.1 a h1 h2 h3).trans (p.1 a h1 h2 h3), fun k h1 => (q.2.1 k h1).trans (p.2.1 k h1), fun k h1 => (q.2.2.1 k h1).trans (p.2.2.1 k h1), fun a => (q.2.2.2.1 a).trans (p.2.2.2.1 a), fun a => (q.2.2.2.2.1 a).trans (p.2.2.2.2.1 a), fun a => (q.2.2.2.2.2.1 a).trans (p.2.2.2.2.2.1 a), q.2.2.2.2.2.2.1.trans p.2.2.2.2.2.2.1, q.2.2.2.2.2.2.2.trans p.2.2.2.2.2.2.2⟩
theorem Kp.I {x : Bool} {h g : pm_H} (p : Kp x h g) (a i : Nat) (v : Int32) (ha : scr x a = true) (h0 : a ≠ 0) (h35 : a ≠ 35) : Kp x h (yI g a i v) :=
  ⟨fun b h1 h2 h3 => (zI_yAn g _ (fun e => by rw [e, ha] at h1; cases h1)).trans (p.1 b h1 h2 h3), fun k h1 => (congrFun (zI_yAn g _ (Ne.symm h0)) k).trans (p.2.1 k h1), fun k h1 => (congrFun (zI_yAn g _ (Ne.symm h35)) k).trans (p.2.2.1 k h1), p.2.2.2⟩
theorem Kp.I0 {x : Bool} {h g : pm_H} (p : Kp x h g) (i : Nat) (v : Int32) (ha : fl0 x i = true) : Kp x h (yI g 0 i v) :=
  ⟨fun b h1 h2 h3 => (zI_yAn g _ h2).trans (p.1 b h1 h2 h3), fun k h1 => by rw [zI_yI, if_pos rfl, va_upA, if_neg (fun e => by rw [e, ha] at h1; cases h1)]; exact p.2.1 k h1, fun k h1 => (congrFun (zI_yAn g _ (by decide)) k).trans (p.2.2.1 k h1), p.2.2.2⟩
theorem Kp.I35 {x : Bool} {h g : pm_H} (p : Kp x h g) (i : Nat) (v : Int32) (ha : fl35 x i = true) : Kp x h (yI g 35 i v) :=
  ⟨fun b h1 h2 h3 => (zI_yAn g _ h3).trans (p.1 b h1 h2 h3), fun k h1 => (congrFun (zI_yAn g _ (by decide)) k).trans (p.2.1 k h1), fun k h1 => by rw [zI_yI, if_pos rfl, va_upA, if_neg (fun e => by rw [e, ha] at h1; cases h1)]; exact p.2.2.1 k h1, p.2.2.2⟩
theorem Kp.of {x : Bool} {L : List Nat} {h g : pm_H} (s : Same L h g) (hL : L.all (fun a => scr x a && (!(Nat.beq a 0) && !(Nat.beq a 35))) = true) : Kp x h g := by
  have hm : ∀ a, a ∈ L → scr x a = true ∧ a ≠ 0 ∧ a ≠ 35 := fun a ha => by
    have := List.all_eq_true.mp hL a ha
    simp only [Bool.and_eq_true, Bool.not_eq_true'] at this
    exact ⟨this.1, fun e => by rw [e] at this; exact absurd this.2.1 (by decide), fun e => by rw [e] at this; exact absurd this.2.2 (by decide)⟩
  exact ⟨fun a h1 _ _ => s.1 a (fun q => by rw [(hm a q).1] at h1; cases h1), fun k _ => by rw [s.1 0 (fun q => (hm 0 q).2.1 rfl)], fun k _ => by rw [s.1 35 (fun q => (hm 35 q).2.2 rfl)], s.2.1, s.2.2.1, s.2.2.2.1, s.2.2.2.2.2.1, s.2.2.2.2.2.2⟩
theorem Kp.SK {x : Bool} {h g : pm_H} (k : Kp x h g) (s : SK h) : SK g :=
  ⟨fun a ha => (k.2.2.2.1 a).trans (s.1 a ha), fun a ha => (k.2.2.2.2.1 a).trans (s.2.1 a ha), fun a i hi => (congrFun (k.2.2.2.2.2.1 a) i).trans (s.2.2.1 a i hi), by rw [k.2.2.2.2.2.2.1]; exact s.2.2.2⟩
theorem scr_stc {x : Bool} {a : Nat} {e : pm_H} (h : dyn e a) : scr x a = false ∧ a ≠ 0 ∧ a ≠ 35 := by
  refine ⟨?_, ?_, ?_⟩
  · cases hq : scr x a with
    | false => rfl
    | true =>
      exfalso
      simp only [scr, Bool.or_eq_true, Bool.and_eq_true, Nat.beq_eq, Nat.ble_eq] at hq
      rcases h.1 with h | h | h | h <;> omega
  · rcases h.1 with h | h | h | h <;> omega
  · rcases h.1 with h | h | h | h <;> omega
theorem Kp.D {x : Bool} {h g : pm_H} (k : Kp x h g) : sameD h g :=
  ⟨fun a ha => ⟨k.2.2.2.1 a, k.2.2.2.2.1 a, k.1 a (scr_stc (x := x) ha).1 (scr_stc (x := x) ha).2.1 (scr_stc (x := x) ha).2.2, k.2.2.2.2.2.1 a⟩, congrFun (k.2.2.2.2.2.1 0) 2, Nat.le_of_eq k.2.2.2.2.2.2.1.symm⟩
theorem Kp.cn {x : Bool} {h g : pm_H} (k : Kp x h g) : zn g ≤ zn h + 200 ∧ zk g ≤ zk h + 14000 := by
  rw [k.2.2.2.2.2.2.1, k.2.2.2.2.2.2.2]
  exact ⟨Nat.le_add_right _ _, Nat.le_add_right _ _⟩
theorem Kp.r {x : Bool} {h g : pm_H} (k : Kp x h g) (a : Nat) (h1 : scr x a = false := by rfl) (h2 : a ≠ 0 := by decide) (h3 : a ≠ 35 := by decide) : zI g a = zI h a := k.1 a h1 h2 h3
theorem INV.genO {x : Bool} {h g : pm_H} (I : INV h) (k : Kp x h g) (st : zI g 0 0 = zI g 35 0) (o : I_out (zI g 0 10) (zI g 35 49) (zI g 34) (zI g 62)) (w : ∀ j, ∃ w, w < 42 ∧ zI g 16 j = nI w) : INV g := by
  obtain ⟨S, n1, i1, i2, i3, i4, i5, B, b1, b2, b3⟩ := I
  have kx : ∀ a, scr x a = false → a ≠ 0 → a ≠ 35 → zI g a = zI h a := k.1
  have q35 : ∀ k', fl35 true k' = false → zI g 35 k' = zI h 35 k' := fun k' hk' => k.2.2.1 k' (by cases x <;> simp only [fl35, Bool.or_eq_false_iff, Bool.true_and, Bool.false_and] at hk' ⊢ <;> simp [hk'])
  have q0 : ∀ k', fl0 true k' = false → zI g 0 k' = zI h 0 k' := fun k' hk' => k.2.1 k' (by cases x <;> simp only [fl0, Bool.or_eq_false_iff, Bool.true_and, Bool.false_and] at hk' ⊢ <;> simp [hk'])
  have qr : ∀ a, scr true a = false → a ≠ 0 → a ≠ 35 → zI g a = zI h a := fun a h1 h2 h3 => k.1 a (by cases x <;> simp only [scr, Bool.or_eq_false_iff, Bool.true_and, Bool.false_and] at h1 ⊢ <;> simp [h1]) h2 h3
  refine ⟨k.SK S, ?_, o, ?_, ?_, ?_, ⟨?_, w⟩, B, b1, b2.keep k.D, ?_⟩
  · obtain ⟨m1, m2, m3, m4, m5, m6, m7⟩ := n1
    rw [q0 11 rfl, q0 12 rfl, qr 1 rfl (by decide) (by decide), q35 37 rfl, q35 38 rfl, q35 5 rfl, q35 6 rfl]
    exact ⟨st, m2, m3, m4, m5, m6, m7⟩
  · rw [qr 20 rfl (by decide) (by decide), q35 39 rfl, qr 21 rfl (by decide) (by decide), qr 22 rfl (by decide) (by decide), qr 55 rfl (by decide) (by decide), qr 56 rfl (by decide) (by decide)]; exact i2
  · rw [qr 27 rfl (by decide) (by decide), q35 42 rfl, qr 28 rfl (by decide) (by decide), qr 29 rfl (by decide) (by decide), qr 30 rfl (by decide) (by decide), qr 31 rfl (by decide) (by decide), qr 32 rfl (by decide) (by decide), qr 57 rfl (by decide) (by decide), qr 58 rfl (by decide) (by decide), qr 59 rfl (by decide) (by decide), qr 60 rfl (by decide) (by decide), qr 61 rfl (by decide) (by decide)]; exact i3
  · rw [qr 2 rfl (by decide) (by decide), q35 3 rfl, qr 3 rfl (by decide) (by decide), qr 36 rfl (by decide) (by decide)]; exact i4
  · rw [qr 5 rfl (by decide) (by decide)]; exact i5.1
  · rw [q35 15 rfl, q35 16 rfl, qr 37 rfl (by decide) (by decide), qr 38 rfl (by decide) (by decide), qr 39 rfl (by decide) (by decide), qr 40 rfl (by decide) (by decide), qr 41 rfl (by decide) (by decide), qr 42 rfl (by decide) (by decide), qr 43 rfl (by decide) (by decide), qr 45 rfl (by decide) (by decide)]; exact b3
theorem INV.gen {h g : pm_H} (I : INV h) (k : Kp false h g) (st : zI g 0 0 = zI g 35 0) : INV g := by
  refine I.genO k st ?_ ?_
  · have := I.2.2.1
    rw [← k.2.1 10 rfl, ← k.2.2.1 49 rfl, ← k.r 34, ← k.r 62] at this
    exact this
  · have := I.2.2.2.2.2.2.1.2
    rw [← k.r 16] at this
    exact this
/-- a number is below 0 or a Nat -/
theorem i32c (x : Int32) : x < 0 ∨ ∃ n : Nat, n < 2147483648 ∧ x = nI n := by
  by_cases hx : x < 0
  · exact Or.inl hx
  · right
    rw [lt_z] at hx
    obtain ⟨n, e, hn⟩ := ex_nI (x := x) (by omega)
    have := Int32.toInt_lt x
    exact ⟨n, by omega, e⟩
section STR2
variable {h : pm_H} {Q : Option Value → pm_H → Prop} {b : Nat} {B : Bk}
theorem c15N {x1 : Int32} (S : SK h) (hb : atB h b B) (bo : bk_ok B) (hx : x1 < 0) (k : Q (some .null) h) : WP 15 0 [some (.ref b), some (.int x1)] [] h Q := by
  refine c15 S hb bo (fun _ => k) (fun s hs es p hp => ?_)
  have := bo.1
  rw [es, lt_z, nI_i (by omega)] at hx
  omega
theorem c15M {s : Nat} (hs2 : s < 2147483648) (S : SK h) (hb : atB h b B) (bo : bk_ok B) (hs : B.1.length ≤ s) (k : Q (some .null) h) : WP 15 0 [some (.ref b), some (.int (nI s))] [] h Q := by
  refine c15 S hb bo (fun _ => k) (fun s' hs' es p hp => ?_)
  have := bo.1
  have := (nI_eq (by omega) (by omega)).mp es
  omega
theorem c15S {s : Nat} (S : SK h) (hb : atB h b B) (bo : bk_ok B) (hs : s < B.1.length) (k : ∀ p, atS h p B.1[s] → Q (some (.ref p)) h) : WP 15 0 [some (.ref b), some (.int (nI s))] [] h Q := by
  have := bo.1
  refine c15 S hb bo (fun c => ?_) (fun s' hs' es p hp => ?_)
  · rw [nI_i (by omega)] at c; omega
  · obtain rfl : s = s' := (nI_eq (by omega) (by omega)).mp es
    exact k p hp
end STR2

theorem rg_w {x : Int32} {a b : Nat} {a' b' : Int32} (ha : a' = Int32.ofInt a) (hb : b' = Int32.ofInt b) (hl : b < 2147483648) (hab : a ≤ b) (h1 : ¬ x < a') (h2 : ¬ b' < x) : ∃ w, a ≤ w ∧ w ≤ b ∧ x = nI w := by
  subst ha; subst hb
  rw [lt_oi (by omega) (by omega)] at h1
  rw [oi_lt (by omega) (by omega)] at h2
  obtain ⟨n, e, hn⟩ := ex_nI (x := x) (by omega)
  exact ⟨n, by omega, by omega, e⟩
theorem rg_0 {x : Int32} {b : Nat} (hl : b < 2147483648) (h1 : ¬ x < 0) (h2 : x ≤ Int32.ofInt b) : ∃ w, w ≤ b ∧ x = nI w := by
  rw [lt_z] at h1
  rw [le_oi (by omega) (by omega)] at h2
  obtain ⟨n, e, hn⟩ := ex_nI (x := x) (by omega)
  exact ⟨n, by omega, e⟩
/-- LOOM -/
theorem p_loom {h : pm_H} {x1 x2 : Int32} (I : INV h) : PAIR 98 165 [.int x1, .int x2] h := by
  obtain ⟨S, n1, i1, i2, i3, i4, i5, B, b1, b2, b3⟩ := I
  refine V98 S ?_ ?_ ?_ ?_ ?_ <;> intros <;> refine V165 S ?_ ?_ ?_ ?_ ?_ <;> intros <;> first
    | contradiction
    | exact ⟨rfl, ⟨S, ⟨rfl, n1.2⟩, i1, i2, i3, i4, i5, B, b1, b2.keep (by repeat first | exact sameD.rf | refine sameD.I ?_ _ _ _), b3⟩, ⟨_, rfl⟩, Nat.le_add_right _ _, Nat.le_add_right _ _⟩
    | exact ⟨rfl, ⟨S, ⟨rfl, rfl, rfl, rg_w (a := 1) (b := 500) rfl rfl (by decide) (by decide) (by assumption) (by assumption), rg_0 (b := 50) (by decide) (by assumption) (by assumption), n1.2.2.2.2.2⟩, i1, i2, i3, i4, i5, B, b1, b2.keep (by repeat first | exact sameD.rf | refine sameD.I ?_ _ _ _), b3⟩, ⟨_, rfl⟩, Nat.le_add_right _ _, Nat.le_add_right _ _⟩
/-- FAULT -/
theorem p_fault {h : pm_H} {x1 : Int32} (I : INV h) : PAIR 88 146 [.int x1] h := by
  obtain ⟨S, n1, i1, i2, i3, i4, i5, B, b1, b2, b3⟩ := I
  have e0 : x1 = Int32.ofInt 0 ↔ x1 = 0 := Iff.rfl
  refine V88 S ?_ ?_ ?_ <;> intros <;> refine V146 S ?_ ?_ ?_ <;> intros <;> first
    | contradiction
    | exact ⟨rfl, ⟨S, n1, i1, i2, i3, i4, i5, B, b1, b2.keep (by repeat first | exact sameD.rf | refine sameD.I ?_ _ _ _), b3⟩, ⟨_, rfl⟩, Nat.le_add_right _ _, Nat.le_add_right _ _⟩
    | exact ⟨congrArg (fun z => some (Value.int z)) n1.2.2.2.2.2.1, ⟨S, n1, i1, i2, i3, i4, i5, B, b1, b2.keep (by repeat first | exact sameD.rf | refine sameD.I ?_ _ _ _), b3⟩, ⟨_, rfl⟩, Nat.le_add_right _ _, Nat.le_add_right _ _⟩
    | exact ⟨congrArg (fun z => some (Value.int z)) n1.2.2.2.2.2.2, ⟨S, n1, i1, i2, i3, i4, i5, B, b1, b2.keep (by repeat first | exact sameD.rf | refine sameD.I ?_ _ _ _), b3⟩, ⟨_, rfl⟩, Nat.le_add_right _ _, Nat.le_add_right _ _⟩
    | (exfalso; subst_vars; revert e0; decide)
    | (exfalso; simp only [e0] at *; contradiction)
theorem nI_sm {x : Int32} {n N : Nat} (hn : n ≤ N) (hN : N < 2147483648) (h1 : ¬ x < 0) (h2 : x < nI n) : ∃ j, j < n ∧ x = nI j ∧ x.toNatClampNeg = j ∧ vp_in x N := by
  obtain ⟨j, hj, e⟩ := vp_in_of (x := x) (n := n) (by
    rw [vp_in_iff]
    rw [lt_z] at h1
    rw [Int32.lt_iff_toInt_lt, nI_toInt (by omega)] at h2
    omega) (by omega)
  exact ⟨j, hj, e, by rw [e]; exact nI_clamp (by omega), by rw [e]; exact vp_in_nI (by omega) (by omega)⟩
/-- OUT -/
theorem p_out {h : pm_H} {x1 : Int32} (I : INV h) : PAIR 97 164 [.int x1] h := by
  obtain ⟨S, n1, i1, i2, i3, i4, i5, B, b1, b2, b3⟩ := I
  obtain ⟨n, o1, o2, o3, o4⟩ := id i1
  refine V97 S ?_ ?_ ?_ ?_
  · intro c1
    refine V164 S ?_ ?_ ?_ ?_ <;> intros <;> first
      | contradiction
      | exact ⟨rfl, ⟨S, n1, i1, i2, i3, i4, i5, B, b1, b2.keep (by repeat first | exact sameD.rf | refine sameD.I ?_ _ _ _), b3⟩, ⟨_, rfl⟩, Nat.le_add_right _ _, Nat.le_add_right _ _⟩
  · intro c1 c2
    rw [o2] at c2
    obtain ⟨j, -, -, -, q⟩ := nI_sm o1 (by decide) c1 c2
    exact q
  · intro c1 c2
    rw [o2] at c2
    obtain ⟨j, hj, ej, hc, q⟩ := nI_sm o1 (by decide) c1 c2
    refine V164 S (fun d => absurd d c1) (fun _ d => ?_) (fun _ _ => q) (fun _ _ => ?_)
    · rw [o3] at d
      exact absurd c2 (Int32.not_lt.mpr d)
    · refine ⟨congrArg (fun z => some (Value.int z)) ?_, ⟨S, n1, i1, i2, i3, i4, i5, B, b1, b2.keep (by repeat first | exact sameD.rf | refine sameD.I ?_ _ _ _), b3⟩, ⟨_, rfl⟩, Nat.le_add_right _ _, Nat.le_add_right _ _⟩
      rw [hc]
      exact o4 j hj
  · intro c1 c2
    refine V164 S (fun d => absurd d c1) (fun _ d => ?_) (fun _ d => ?_) (fun _ d => ?_)
    · exact ⟨rfl, ⟨S, n1, i1, i2, i3, i4, i5, B, b1, b2.keep (by repeat first | exact sameD.rf | refine sameD.I ?_ _ _ _), b3⟩, ⟨_, rfl⟩, Nat.le_add_right _ _, Nat.le_add_right _ _⟩
    · rw [o2] at c2; rw [o3] at d
      exact absurd (Int32.not_lt.mp c2) d
    · rw [o2] at c2; rw [o3] at d
      exact absurd (Int32.not_lt.mp c2) d

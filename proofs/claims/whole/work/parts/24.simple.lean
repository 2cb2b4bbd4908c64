theorem lt_oi {x : Int32} {n : Int} (h1 : -2147483648 ≤ n) (h2 : n < 2147483648) : x < Int32.ofInt n ↔ x.toInt < n := by rw [Int32.lt_iff_toInt_lt, Int32.toInt_ofInt_of_le (by omega) (by omega)]
theorem oi_lt {x : Int32} {n : Int} (h1 : -2147483648 ≤ n) (h2 : n < 2147483648) : Int32.ofInt n < x ↔ n < x.toInt := by rw [Int32.lt_iff_toInt_lt, Int32.toInt_ofInt_of_le (by omega) (by omega)]
theorem le_oi {x : Int32} {n : Int} (h1 : -2147483648 ≤ n) (h2 : n < 2147483648) : x ≤ Int32.ofInt n ↔ x.toInt ≤ n := by rw [Int32.le_iff_toInt_le, Int32.toInt_ofInt_of_le (by omega) (by omega)]
theorem oi_le {x : Int32} {n : Int} (h1 : -2147483648 ≤ n) (h2 : n < 2147483648) : Int32.ofInt n ≤ x ↔ n ≤ x.toInt := by rw [Int32.le_iff_toInt_le, Int32.toInt_ofInt_of_le (by omega) (by omega)]
theorem eq_oi {x : Int32} {n : Int} (h1 : -2147483648 ≤ n) (h2 : n < 2147483648) : x = Int32.ofInt n ↔ x.toInt = n := by rw [← Int32.toInt_inj, Int32.toInt_ofInt_of_le (by omega) (by omega)]
theorem lt_z {x : Int32} : x < 0 ↔ x.toInt < 0 := by rw [Int32.lt_iff_toInt_lt, Int32.toInt_zero]
theorem z_le {x : Int32} : 0 ≤ x ↔ 0 ≤ x.toInt := by rw [Int32.le_iff_toInt_le, Int32.toInt_zero]
theorem z_lt {x : Int32} : 0 < x ↔ 0 < x.toInt := by rw [Int32.lt_iff_toInt_lt, Int32.toInt_zero]
theorem le_z {x : Int32} : x ≤ 0 ↔ x.toInt ≤ 0 := by rw [Int32.le_iff_toInt_le, Int32.toInt_zero]
theorem eq_z {x : Int32} : x = 0 ↔ x.toInt = 0 := by rw [← Int32.toInt_inj, Int32.toInt_zero]
theorem oi_n (n : Nat) : Int32.ofInt (n : Int) = nI n := rfl
theorem ex_nI {x : Int32} (h : 0 ≤ x.toInt) : ∃ n : Nat, x = nI n ∧ (n : Int) = x.toInt := ⟨x.toInt.toNat, by
  apply Int32.toInt_inj.mp
  have h2 := Int32.toInt_lt x
  rw [nI_toInt (by omega)]
  omega, by omega⟩
theorem oi1 : Int32.ofInt 1 = 0 ∨ Int32.ofInt 1 = 1 := by decide
theorem oi0 : Int32.ofInt 0 = 0 ∨ Int32.ofInt 0 = 1 := by decide
section SMP
variable {h : pm_H} {Q : Option Value → pm_H → Prop}
/-- the ranges: 1 outside, 0 within (the class's), and the other way round (the model's) -/
theorem c110 {x : Int32} (kt : x.toInt < 0 ∨ 7 < x.toInt → Q (some (.int (Int32.ofInt 1))) h) (kf : 0 ≤ x.toInt ∧ x.toInt ≤ 7 → Q (some (.int (Int32.ofInt 0))) h) : WP 110 0 [some (.int x)] [] h Q := by
  refine B110_0 (fun c => B110_10 (B110_15 oi1 (kt ?_))) (fun c => B110_4 (fun c2 => B110_14 (B110_15 oi0 (kf ?_))) (fun c2 => B110_10 (B110_15 oi1 (kt ?_)))) <;> simp only [lt_z, lt_oi (n := 8) (by decide) (by decide)] at * <;> omega
theorem c111 {x : Int32} (kt : x.toInt < 0 ∨ 1000000 < x.toInt → Q (some (.int (Int32.ofInt 1))) h) (kf : 0 ≤ x.toInt ∧ x.toInt ≤ 1000000 → Q (some (.int (Int32.ofInt 0))) h) : WP 111 0 [some (.int x)] [] h Q := by
  refine B111_0 (fun c => B111_10 (B111_15 oi1 (kt ?_))) (fun c => B111_4 (fun c2 => B111_14 (B111_15 oi0 (kf ?_))) (fun c2 => B111_10 (B111_15 oi1 (kt ?_)))) <;> simp only [lt_z, le_oi (n := 1000000) (by decide) (by decide)] at * <;> omega
theorem c112 {x : Int32} (kt : x.toInt < 0 ∨ 25 < x.toInt → Q (some (.int (Int32.ofInt 1))) h) (kf : 0 ≤ x.toInt ∧ x.toInt ≤ 25 → Q (some (.int (Int32.ofInt 0))) h) : WP 112 0 [some (.int x)] [] h Q := by
  refine B112_0 (fun c => B112_10 (B112_15 oi1 (kt ?_))) (fun c => B112_4 (fun c2 => B112_14 (B112_15 oi0 (kf ?_))) (fun c2 => B112_10 (B112_15 oi1 (kt ?_)))) <;> simp only [lt_z, lt_oi (n := 26) (by decide) (by decide)] at * <;> omega
theorem c113 {x : Int32} (kt : x.toInt < 0 ∨ 9 < x.toInt → Q (some (.int (Int32.ofInt 1))) h) (kf : 0 ≤ x.toInt ∧ x.toInt ≤ 9 → Q (some (.int (Int32.ofInt 0))) h) : WP 113 0 [some (.int x)] [] h Q := by
  refine B113_0 (fun c => B113_10 (B113_15 oi1 (kt ?_))) (fun c => B113_4 (fun c2 => B113_14 (B113_15 oi0 (kf ?_))) (fun c2 => B113_10 (B113_15 oi1 (kt ?_)))) <;> simp only [lt_z, lt_oi (n := 10) (by decide) (by decide)] at * <;> omega
theorem c114 {x : Int32} (kt : x.toInt < 0 ∨ 9999 < x.toInt → Q (some (.int (Int32.ofInt 1))) h) (kf : 0 ≤ x.toInt ∧ x.toInt ≤ 9999 → Q (some (.int (Int32.ofInt 0))) h) : WP 114 0 [some (.int x)] [] h Q := by
  refine B114_0 (fun c => B114_11 (B114_16 oi1 (kt ?_))) (fun c => B114_4 (fun c2 => B114_15 (B114_16 oi0 (kf ?_))) (fun c2 => B114_11 (B114_16 oi1 (kt ?_)))) <;> simp only [lt_z, lt_oi (n := 10000) (by decide) (by decide)] at * <;> omega
end SMP
/-- STATUS -/
theorem p_status {h : pm_H} (I : INV h) : PAIR 85 122 [] h := by
  obtain ⟨S, n1, i1, i2, i3, i4, i5, B, b1, b2, b3⟩ := I
  refine B85_0 (S.T 0) (B122_0 (S.T 35) ⟨congrArg (fun z => some (Value.int z)) n1.1, ⟨S, n1, i1, i2, i3, i4, i5, B, b1, b2.keep (sameD.rf.I 35 1 _), b3⟩, ⟨_, rfl⟩, Nat.le_add_right _ _, Nat.le_add_right _ _⟩)

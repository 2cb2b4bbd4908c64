theorem nI_i {n : Nat} (h : n < 2147483648) : (nI n).toInt = (n : Int) := nI_toInt h
section P2
variable {h : pm_H} {Q : Option Value → pm_H → Prop} {x1 x2 x3 x4 x5 : Int32}
/-- lot(colour, yarn) of the class and of the model, with n lots there -/
theorem c100 (S : SK h) {n : Nat} (hn : n ≤ 6) (e : zI h 20 2 = nI n) (k2 : x1.toInt < 0 ∨ 7 < x1.toInt ∨ x2.toInt < 0 ∨ 1000000 < x2.toInt → Q (some (.int (Int32.ofInt (-1)))) (yI h 0 0 (Int32.ofInt 2)))
    (k3 : 0 ≤ x1.toInt ∧ x1.toInt ≤ 7 ∧ 0 ≤ x2.toInt ∧ x2.toInt ≤ 1000000 → n = 6 → Q (some (.int (Int32.ofInt (-1)))) (yI h 0 0 (Int32.ofInt 3)))
    (k0 : 0 ≤ x1.toInt ∧ x1.toInt ≤ 7 ∧ 0 ≤ x2.toInt ∧ x2.toInt ≤ 1000000 → n < 6 → ∀ g, Same [0, 20, 21, 22] h g → zI g 0 = va_up (zI h 0) 0 (Int32.ofInt 0) → zI g 20 2 = nI (n + 1) → zI g 21 = va_up (zI h 21) n x1 → zI g 22 = va_up (zI h 22) n x2 → Q (some (.int (nI n))) g) : WP 100 0 [some (.ref 0), some (.int x1), some (.int x2)] [] h Q := by
  have en : (zI h 20 2).toInt = n := by rw [e]; exact nI_i (by omega)
  have ec : (zI h 20 2).toNatClampNeg = n := by rw [e]; exact nI_clamp (by omega)
  have e1 : zI h 20 2 + Int32.ofInt 1 = nI (n + 1) := by rw [e]; exact nI_1 n
  have e2 : nI (n + 1) - Int32.ofInt 1 = nI n := nI_pred n
  have ev : n < 6 → vp_in (zI h 20 2) 6 := fun q => by rw [e]; exact vp_in_nI q (by decide)
  refine V100 S ?_ ?_ ?_ ?_ ?_ ?_ ?_ ?_ ?_ <;> intros <;> simp only [lt_z, lt_oi (n := 8) (by decide) (by decide), le_oi (n := 1000000) (by decide) (by decide), oi_le (n := 8) (by decide) (by decide), oi_lt (n := 1000000) (by decide) (by decide), lt_oi (n := 6) (by decide) (by decide), eq_oi (n := 6) (by decide) (by decide), en] at * <;> first
    | exact k2 (by omega)
    | exact k3 (by omega) (by omega)
    | exact ev (by omega)
    | (rw [ec, e1, e2]; exact k0 (by omega) (by omega) _ ((((Same.rf.I 21 _ _ (by decide)).I 22 _ _ (by decide)).I 20 _ _ (by decide)).I 0 _ _ (by decide)) rfl (by simp [zI_yI, va_upA]) rfl rfl)
    | (exfalso; omega)
theorem c170 (S : SK h) {n : Nat} (hn : n ≤ 6) (e : zI h 35 39 = nI n) (k2 : x1.toInt < 0 ∨ 7 < x1.toInt ∨ x2.toInt < 0 ∨ 1000000 < x2.toInt → Q (some (.int (Int32.ofInt (-1)))) (yI (yI (yI h 35 1 (Int32.ofInt 0)) 35 0 (Int32.ofInt 0)) 35 0 (Int32.ofInt 2)))
    (k3 : 0 ≤ x1.toInt ∧ x1.toInt ≤ 7 ∧ 0 ≤ x2.toInt ∧ x2.toInt ≤ 1000000 → n = 6 → Q (some (.int (Int32.ofInt (-1)))) (yI (yI (yI h 35 1 (Int32.ofInt 0)) 35 0 (Int32.ofInt 0)) 35 0 (Int32.ofInt 3)))
    (k0 : 0 ≤ x1.toInt ∧ x1.toInt ≤ 7 ∧ 0 ≤ x2.toInt ∧ x2.toInt ≤ 1000000 → n < 6 → ∀ g, Same [35, 55, 56] h g → zI g 35 = va_up (va_up (va_up (zI h 35) 1 (Int32.ofInt 0)) 0 (Int32.ofInt 0)) 39 (nI (n + 1)) → zI g 55 = va_up (zI h 55) n x1 → zI g 56 = va_up (zI h 56) n x2 → Q (some (.int (nI n))) g) : WP 170 0 [some (.ref 35), some (.int x1), some (.int x2)] [] h Q := by
  have en : (zI h 35 39).toInt = n := by rw [e]; exact nI_i (by omega)
  have ec : (zI h 35 39).toNatClampNeg = n := by rw [e]; exact nI_clamp (by omega)
  have e1 : zI h 35 39 + Int32.ofInt 1 = nI (n + 1) := by rw [e]; exact nI_1 n
  have e2 : nI (n + 1) - Int32.ofInt 1 = nI n := nI_pred n
  have ev : n < 6 → vp_in (zI h 35 39) 6 := fun q => by rw [e]; exact vp_in_nI q (by decide)
  refine V170 S ?_ ?_ ?_ ?_ ?_ ?_ ?_ ?_ <;> intros <;> simp only [lt_z, lt_oi (n := 8) (by decide) (by decide), le_oi (n := 1000000) (by decide) (by decide), oi_le (n := 8) (by decide) (by decide), oi_lt (n := 1000000) (by decide) (by decide), lt_oi (n := 6) (by decide) (by decide), eq_oi (n := 6) (by decide) (by decide), en] at * <;> first
    | exact k2 (by omega)
    | exact k3 (by omega) (by omega)
    | exact ev (by omega)
    | (rw [ec, e1, e2]; exact k0 (by omega) (by omega) _ (((((Same.rf.I 35 _ _ (by decide)).I 35 _ _ (by decide)).I 55 _ _ (by decide)).I 56 _ _ (by decide)).I 35 _ _ (by decide)) rfl rfl rfl)
    | (exfalso; omega)
end P2
theorem ex_le {x : Int32} {m : Nat} (h0 : 0 ≤ x.toInt) (h1 : x.toInt ≤ m) : ∃ n, n ≤ m ∧ x = nI n := by
  obtain ⟨n, e, hn⟩ := ex_nI h0
  exact ⟨n, by omega, e⟩

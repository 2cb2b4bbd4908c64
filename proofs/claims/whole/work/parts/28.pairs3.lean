section P3
variable {h : pm_H} {Q : Option Value → pm_H → Prop} {x1 x2 : Int32}
theorem c101 (S : SK h) {n : Nat} (hn : n ≤ 6) (e : zI h 20 2 = nI n) (k1 : x1.toInt < 0 ∨ (n : Int) ≤ x1.toInt → ∀ g, Same [0] h g → zI g 0 = va_up (zI h 0) 0 (Int32.ofInt 1) → Q (some (.int (Int32.ofInt 0))) g)
    (k2 : 0 ≤ x1.toInt ∧ x1.toInt < n → x2.toInt < 0 ∨ 1000000 < x2.toInt → ∀ g, Same [0] h g → zI g 0 = va_up (zI h 0) 0 (Int32.ofInt 2) → Q (some (.int (Int32.ofInt 0))) g)
    (k0 : 0 ≤ x2.toInt ∧ x2.toInt ≤ 1000000 → ∀ j, j < n → ∀ g, Same [0, 22] h g → zI g 0 = va_up (zI h 0) 0 (Int32.ofInt 0) → zI g 22 = va_up (zI h 22) j x2 → x1 = nI j → Q (some (.int (Int32.ofInt 1))) g) : WP 101 0 [some (.ref 0), some (.int x1), some (.int x2)] [] h Q := by
  have en : (zI h 20 2).toInt = n := by rw [e]; exact nI_i (by omega)
  have el : x1 < zI h 20 2 ↔ x1.toInt < n := by rw [Int32.lt_iff_toInt_lt, en]
  have ev : 0 ≤ x1.toInt → x1.toInt < n → ∃ j, j < n ∧ x1 = nI j ∧ x1.toNatClampNeg = j ∧ vp_in x1 6 := fun a b => by
    obtain ⟨j, q1, q2⟩ := ex_nI a
    exact ⟨j, by omega, q1, by rw [q1]; exact nI_clamp (by omega), by rw [q1]; exact vp_in_nI (by omega) (by decide)⟩
  refine V101 S ?_ ?_ ?_ ?_ ?_ ?_ <;> intros <;> simp only [lt_z, le_oi (n := 1000000) (by decide) (by decide), oi_lt (n := 1000000) (by decide) (by decide), el] at * <;> first
    | exact k1 (by omega) _ (Same.rf.I 0 _ _ (by decide)) rfl
    | exact k2 (by omega) (by omega) _ (Same.rf.I 0 _ _ (by decide)) rfl
    | (obtain ⟨j, j1, j2, j3, j4⟩ := ev (by omega) (by omega); exact j4)
    | (obtain ⟨j, j1, j2, j3, j4⟩ := ev (by omega) (by omega); rw [j3]; exact k0 (by omega) j j1 _ ((Same.rf.I 22 _ _ (by decide)).I 0 _ _ (by decide)) rfl rfl j2)
    | (exfalso; omega)
theorem c171 (S : SK h) {n : Nat} (hn : n ≤ 6) (e : zI h 35 39 = nI n) (k1 : x1.toInt < 0 ∨ (n : Int) ≤ x1.toInt → ∀ g, Same [35] h g → zI g 35 = va_up (va_up (va_up (zI h 35) 1 (Int32.ofInt 0)) 0 (Int32.ofInt 0)) 0 (Int32.ofInt 1) → Q (some (.int (Int32.ofInt 0))) g)
    (k2 : 0 ≤ x1.toInt ∧ x1.toInt < n → x2.toInt < 0 ∨ 1000000 < x2.toInt → ∀ g, Same [35] h g → zI g 35 = va_up (va_up (va_up (zI h 35) 1 (Int32.ofInt 0)) 0 (Int32.ofInt 0)) 0 (Int32.ofInt 2) → Q (some (.int (Int32.ofInt 0))) g)
    (k0 : 0 ≤ x2.toInt ∧ x2.toInt ≤ 1000000 → ∀ j, j < n → ∀ g, Same [35, 56] h g → zI g 35 = va_up (va_up (zI h 35) 1 (Int32.ofInt 0)) 0 (Int32.ofInt 0) → zI g 56 = va_up (zI h 56) j x2 → x1 = nI j → Q (some (.int (Int32.ofInt 1))) g) : WP 171 0 [some (.ref 35), some (.int x1), some (.int x2)] [] h Q := by
  have en : (zI h 35 39).toInt = n := by rw [e]; exact nI_i (by omega)
  have el : x1 < zI h 35 39 ↔ x1.toInt < n := by rw [Int32.lt_iff_toInt_lt, en]
  have ev : 0 ≤ x1.toInt → x1.toInt < n → ∃ j, j < n ∧ x1 = nI j ∧ x1.toNatClampNeg = j ∧ vp_in x1 6 := fun a b => by
    obtain ⟨j, q1, q2⟩ := ex_nI a
    exact ⟨j, by omega, q1, by rw [q1]; exact nI_clamp (by omega), by rw [q1]; exact vp_in_nI (by omega) (by decide)⟩
  refine V171 S ?_ ?_ ?_ ?_ ?_ ?_ <;> intros <;> simp only [lt_z, le_oi (n := 1000000) (by decide) (by decide), oi_lt (n := 1000000) (by decide) (by decide), el] at * <;> first
    | exact k1 (by omega) _ (((Same.rf.I 35 _ _ (by decide)).I 35 _ _ (by decide)).I 35 _ _ (by decide)) rfl
    | exact k2 (by omega) (by omega) _ (((Same.rf.I 35 _ _ (by decide)).I 35 _ _ (by decide)).I 35 _ _ (by decide)) rfl
    | (obtain ⟨j, j1, j2, j3, j4⟩ := ev (by omega) (by omega); exact j4)
    | (obtain ⟨j, j1, j2, j3, j4⟩ := ev (by omega) (by omega); rw [j3]; exact k0 (by omega) j j1 _ (((Same.rf.I 35 _ _ (by decide)).I 35 _ _ (by decide)).I 56 _ _ (by decide)) rfl rfl j2)
    | (exfalso; omega)
end P3
/-- STOCK -/
theorem p_stock {h : pm_H} {x1 x2 : Int32} (I : INV h) : PAIR 101 171 [.int x1, .int x2] h := by
  obtain ⟨S, n1, i1, i2, i3, i4, i5, B, b1, b2, b3⟩ := id I
  obtain ⟨n, o1, o2, o3, o4⟩ := id i2
  refine c101 S o1 o2 (fun c g s1 e1 => ?_) (fun c d g s1 e1 => ?_) (fun c j hj g s1 e1 e2 e3 => ?_)
  · refine c171 (s1.SK S) o1 (by rw [s1.1 35 (by decide)]; exact o3) (fun c' g2 s2 f1 => ?_) (fun c' d' => by omega) (fun c' j' hj' g2 s2 f1 f2 f3 => ?_)
    · exact ⟨rfl, I.no s1 e1 s2 f1, ⟨_, rfl⟩, (s1.tr s2).cn⟩
    · rw [f3, nI_i (by omega)] at c; omega
  · refine c171 (s1.SK S) o1 (by rw [s1.1 35 (by decide)]; exact o3) (fun c' => by omega) (fun c' d' g2 s2 f1 => ?_) (fun c' => by omega)
    exact ⟨rfl, I.no s1 e1 s2 f1, ⟨_, rfl⟩, (s1.tr s2).cn⟩
  · have hx : x1.toInt = j := by rw [e3]; exact nI_i (by omega)
    refine c171 (s1.SK S) o1 (by rw [s1.1 35 (by decide)]; exact o3) (fun c' => by omega) (fun c' d' => by omega) (fun c' j' hj' g2 s2 f1 f2 f3 => ?_)
    have hjj : j' = j := by
      have := nI_i (n := j') (by omega)
      rw [← f3] at this
      omega
    subst hjj
    have T : Same [0, 22, 35, 56] h g2 := s1.tr s2
    have r0 : zI g2 0 = va_up (zI h 0) 0 (Int32.ofInt 0) := (s2.1 0 (by decide)).trans e1
    have r35 : zI g2 35 = va_up (va_up (zI h 35) 1 (Int32.ofInt 0)) 0 (Int32.ofInt 0) := by rw [f1, s1.1 35 (by decide)]
    have r22 : zI g2 22 = va_up (zI h 22) j' x2 := (s2.1 22 (by decide)).trans e2
    have r56 : zI g2 56 = va_up (zI h 56) j' x2 := by rw [f2, s1.1 56 (by decide)]
    refine ⟨rfl, ⟨T.SK S, ?_, ?_, ?_, ?_, ?_, ?_, B, b1, b2.keep (T.D (by decide)), ?_⟩, ⟨_, rfl⟩, T.cn⟩
    · rw [r0, T.1 1 (by decide), r35]; exact ⟨rfl, n1.2⟩
    · rw [r0, r35, T.1 34 (by decide), T.1 62 (by decide)]; exact i1
    · rw [T.1 20 (by decide), r35, T.1 21 (by decide), r22, T.1 55 (by decide), r56]; exact ⟨n, o1, o2, o3, fun j hj => by
        by_cases hj2 : j = j'
        · subst hj2
          obtain ⟨b, b5, b6⟩ := ex_le (x := x2) (m := 1000000) c.1 c.2
          simp only [va_upS]
          exact ⟨(o4 j hj).1, trivial, (o4 j hj).2.2.1, b, b5, b6⟩
        · simp only [va_upN _ _ hj2]
          exact o4 j hj⟩
    · rw [T.1 27 (by decide), r35, T.1 28 (by decide), T.1 29 (by decide), T.1 30 (by decide), T.1 31 (by decide), T.1 32 (by decide), T.1 57 (by decide), T.1 58 (by decide), T.1 59 (by decide), T.1 60 (by decide), T.1 61 (by decide)]; exact i3
    · rw [T.1 2 (by decide), r35, T.1 3 (by decide), T.1 36 (by decide)]; exact i4
    · rw [T.1 5 (by decide), T.1 16 (by decide)]; exact i5
    · rw [r35, T.1 37 (by decide), T.1 38 (by decide), T.1 39 (by decide), T.1 40 (by decide), T.1 41 (by decide), T.1 42 (by decide), T.1 43 (by decide), T.1 45 (by decide)]; exact b3

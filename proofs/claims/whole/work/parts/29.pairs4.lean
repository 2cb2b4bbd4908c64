section P4
variable {h : pm_H} {Q : Option Value → pm_H → Prop} {x1 x2 x3 x4 x5 : Int32}
theorem c104 (S : SK h) {n : Nat} (hn : n ≤ 60) (e : zI h 27 5 = nI n) (k2 : ¬ (0 ≤ x1.toInt ∧ x1.toInt ≤ 25 ∧ 0 ≤ x2.toInt ∧ x2.toInt ≤ 9 ∧ 0 ≤ x3.toInt ∧ x3.toInt ≤ x4.toInt ∧ x4.toInt ≤ 9999 ∧ 0 ≤ x5.toInt ∧ x5.toInt ≤ 9999) → ∀ g, Same [0] h g → zI g 0 = va_up (zI h 0) 0 (Int32.ofInt 2) → Q (some (.int (Int32.ofInt 0))) g)
    (k3 : 0 ≤ x1.toInt ∧ x1.toInt ≤ 25 ∧ 0 ≤ x2.toInt ∧ x2.toInt ≤ 9 ∧ 0 ≤ x3.toInt ∧ x3.toInt ≤ x4.toInt ∧ x4.toInt ≤ 9999 ∧ 0 ≤ x5.toInt ∧ x5.toInt ≤ 9999 → n = 60 → ∀ g, Same [0] h g → zI g 0 = va_up (zI h 0) 0 (Int32.ofInt 3) → Q (some (.int (Int32.ofInt 0))) g)
    (k0 : 0 ≤ x1.toInt ∧ x1.toInt ≤ 25 ∧ 0 ≤ x2.toInt ∧ x2.toInt ≤ 9 ∧ 0 ≤ x3.toInt ∧ x3.toInt ≤ x4.toInt ∧ x4.toInt ≤ 9999 ∧ 0 ≤ x5.toInt ∧ x5.toInt ≤ 9999 → n < 60 → ∀ g, Same [0, 27, 28, 29, 30, 31, 32] h g → zI g 0 = va_up (zI h 0) 0 (Int32.ofInt 0) → zI g 27 5 = nI (n + 1) → zI g 28 = va_up (zI h 28) n x1 → zI g 29 = va_up (zI h 29) n x2 → zI g 30 = va_up (zI h 30) n x3 → zI g 31 = va_up (zI h 31) n x4 → zI g 32 = va_up (zI h 32) n x5 → Q (some (.int (Int32.ofInt 1))) g) : WP 104 0 [some (.ref 0), some (.int x1), some (.int x2), some (.int x3), some (.int x4), some (.int x5)] [] h Q := by
  have en : (zI h 27 5).toInt = n := by rw [e]; exact nI_i (by omega)
  have ec : (zI h 27 5).toNatClampNeg = n := by rw [e]; exact nI_clamp (by omega)
  have e1 : zI h 27 5 + Int32.ofInt 1 = nI (n + 1) := by rw [e]; exact nI_1 n
  have el : x4 < x3 ↔ x4.toInt < x3.toInt := Int32.lt_iff_toInt_lt
  have ev : n < 60 → vp_in (zI h 27 5) 60 := fun q => by rw [e]; exact vp_in_nI q (by decide)
  refine V104 S ?_ ?_ ?_ ?_ ?_ ?_ ?_ ?_ ?_ ?_ ?_ ?_ ?_ ?_ ?_ ?_ ?_ ?_ ?_ <;> intros <;> simp only [lt_z, lt_oi (n := 26) (by decide) (by decide), lt_oi (n := 10) (by decide) (by decide), lt_oi (n := 10000) (by decide) (by decide), lt_oi (n := 60) (by decide) (by decide), oi_le (n := 60) (by decide) (by decide), el, en] at * <;> first
    | exact k2 (by omega) _ (Same.rf.I 0 _ _ (by decide)) rfl
    | exact k3 (by omega) (by omega) _ (Same.rf.I 0 _ _ (by decide)) rfl
    | exact ev (by omega)
    | (rw [ec, e1]; exact k0 (by omega) (by omega) _ (((((((Same.rf.I 28 _ _ (by decide)).I 29 _ _ (by decide)).I 30 _ _ (by decide)).I 31 _ _ (by decide)).I 32 _ _ (by decide)).I 27 _ _ (by decide)).I 0 _ _ (by decide)) rfl (by simp [zI_yI, va_upA]) rfl rfl rfl rfl rfl)
    | (exfalso; omega)
theorem c176 (S : SK h) {n : Nat} (hn : n ≤ 60) (e : zI h 35 42 = nI n) (k2 : ¬ (0 ≤ x1.toInt ∧ x1.toInt ≤ 25 ∧ 0 ≤ x2.toInt ∧ x2.toInt ≤ 9 ∧ 0 ≤ x3.toInt ∧ x3.toInt ≤ x4.toInt ∧ x4.toInt ≤ 9999 ∧ 0 ≤ x5.toInt ∧ x5.toInt ≤ 9999) → ∀ g, Same [35] h g → zI g 35 = va_up (va_up (va_up (zI h 35) 1 (Int32.ofInt 0)) 0 (Int32.ofInt 0)) 0 (Int32.ofInt 2) → Q (some (.int (Int32.ofInt 0))) g)
    (k3 : 0 ≤ x1.toInt ∧ x1.toInt ≤ 25 ∧ 0 ≤ x2.toInt ∧ x2.toInt ≤ 9 ∧ 0 ≤ x3.toInt ∧ x3.toInt ≤ x4.toInt ∧ x4.toInt ≤ 9999 ∧ 0 ≤ x5.toInt ∧ x5.toInt ≤ 9999 → n = 60 → ∀ g, Same [35] h g → zI g 35 = va_up (va_up (va_up (zI h 35) 1 (Int32.ofInt 0)) 0 (Int32.ofInt 0)) 0 (Int32.ofInt 3) → Q (some (.int (Int32.ofInt 0))) g)
    (k0 : 0 ≤ x1.toInt ∧ x1.toInt ≤ 25 ∧ 0 ≤ x2.toInt ∧ x2.toInt ≤ 9 ∧ 0 ≤ x3.toInt ∧ x3.toInt ≤ x4.toInt ∧ x4.toInt ≤ 9999 ∧ 0 ≤ x5.toInt ∧ x5.toInt ≤ 9999 → n < 60 → ∀ g, Same [35, 57, 58, 59, 60, 61] h g → zI g 35 = va_up (va_up (va_up (zI h 35) 1 (Int32.ofInt 0)) 0 (Int32.ofInt 0)) 42 (nI (n + 1)) → zI g 57 = va_up (zI h 57) n x1 → zI g 58 = va_up (zI h 58) n x2 → zI g 59 = va_up (zI h 59) n x3 → zI g 60 = va_up (zI h 60) n x4 → zI g 61 = va_up (zI h 61) n x5 → Q (some (.int (Int32.ofInt 1))) g) : WP 176 0 [some (.ref 35), some (.int x1), some (.int x2), some (.int x3), some (.int x4), some (.int x5)] [] h Q := by
  have en : (zI h 35 42).toInt = n := by rw [e]; exact nI_i (by omega)
  have ec : (zI h 35 42).toNatClampNeg = n := by rw [e]; exact nI_clamp (by omega)
  have e1 : zI h 35 42 + Int32.ofInt 1 = nI (n + 1) := by rw [e]; exact nI_1 n
  have el : x4 < x3 ↔ x4.toInt < x3.toInt := Int32.lt_iff_toInt_lt
  have ev : n < 60 → vp_in (zI h 35 42) 60 := fun q => by rw [e]; exact vp_in_nI q (by decide)
  refine V176 S ?_ ?_ ?_ ?_ ?_ ?_ ?_ ?_ ?_ ?_ ?_ ?_ ?_ ?_ ?_ ?_ ?_ ?_ <;> intros <;> simp only [lt_z, oi_lt (n := 25) (by decide) (by decide), oi_lt (n := 9) (by decide) (by decide), oi_lt (n := 9999) (by decide) (by decide), eq_oi (n := 60) (by decide) (by decide), el, en] at * <;> first
    | exact k2 (by omega) _ (((Same.rf.I 35 _ _ (by decide)).I 35 _ _ (by decide)).I 35 _ _ (by decide)) rfl
    | exact k3 (by omega) (by omega) _ (((Same.rf.I 35 _ _ (by decide)).I 35 _ _ (by decide)).I 35 _ _ (by decide)) rfl
    | exact ev (by omega)
    | (rw [ec, e1]; exact k0 (by omega) (by omega) _ ((((((((Same.rf.I 35 _ _ (by decide)).I 35 _ _ (by decide)).I 57 _ _ (by decide)).I 58 _ _ (by decide)).I 59 _ _ (by decide)).I 60 _ _ (by decide)).I 61 _ _ (by decide)).I 35 _ _ (by decide)) rfl rfl rfl rfl rfl rfl)
    | (exfalso; omega)
end P4
/-- RIGHT -/
theorem p_right {h : pm_H} {x1 x2 x3 x4 x5 : Int32} (I : INV h) : PAIR 104 176 [.int x1, .int x2, .int x3, .int x4, .int x5] h := by
  obtain ⟨S, n1, i1, i2, i3, i4, i5, B, b1, b2, b3⟩ := id I
  obtain ⟨n, o1, o2, o3, o4⟩ := id i3
  refine c104 S o1 o2 (fun c g s1 e1 => ?_) (fun c d g s1 e1 => ?_) (fun c d g s1 e1 e2 a1 a2 a3 a4 a5 => ?_)
  · refine c176 (s1.SK S) o1 (by rw [s1.1 35 (by decide)]; exact o3) (fun c' g2 s2 f1 => ?_) (fun c' d' => absurd c' c) (fun c' d' => absurd c' c)
    exact ⟨rfl, I.no s1 e1 s2 f1, ⟨_, rfl⟩, (s1.tr s2).cn⟩
  · refine c176 (s1.SK S) o1 (by rw [s1.1 35 (by decide)]; exact o3) (fun c' => absurd c c') (fun c' d' g2 s2 f1 => ?_) (fun c' d' => by omega)
    exact ⟨rfl, I.no s1 e1 s2 f1, ⟨_, rfl⟩, (s1.tr s2).cn⟩
  · refine c176 (s1.SK S) o1 (by rw [s1.1 35 (by decide)]; exact o3) (fun c' => absurd c c') (fun c' d' => by omega) (fun c' d' g2 s2 f1 f57 f58 f59 f60 f61 => ?_)
    have T : Same [0, 27, 28, 29, 30, 31, 32, 35, 57, 58, 59, 60, 61] h g2 := s1.tr s2
    have r0 : zI g2 0 = va_up (zI h 0) 0 (Int32.ofInt 0) := (s2.1 0 (by decide)).trans e1
    have r35 : zI g2 35 = va_up (va_up (va_up (zI h 35) 1 (Int32.ofInt 0)) 0 (Int32.ofInt 0)) 42 (nI (n + 1)) := by rw [f1, s1.1 35 (by decide)]
    have r27 : zI g2 27 = zI g 27 := s2.1 27 (by decide)
    have r28 : zI g2 28 = va_up (zI h 28) n x1 := (s2.1 28 (by decide)).trans a1
    have r29 : zI g2 29 = va_up (zI h 29) n x2 := (s2.1 29 (by decide)).trans a2
    have r30 : zI g2 30 = va_up (zI h 30) n x3 := (s2.1 30 (by decide)).trans a3
    have r31 : zI g2 31 = va_up (zI h 31) n x4 := (s2.1 31 (by decide)).trans a4
    have r32 : zI g2 32 = va_up (zI h 32) n x5 := (s2.1 32 (by decide)).trans a5
    have r57 : zI g2 57 = va_up (zI h 57) n x1 := by rw [f57, s1.1 57 (by decide)]
    have r58 : zI g2 58 = va_up (zI h 58) n x2 := by rw [f58, s1.1 58 (by decide)]
    have r59 : zI g2 59 = va_up (zI h 59) n x3 := by rw [f59, s1.1 59 (by decide)]
    have r60 : zI g2 60 = va_up (zI h 60) n x4 := by rw [f60, s1.1 60 (by decide)]
    have r61 : zI g2 61 = va_up (zI h 61) n x5 := by rw [f61, s1.1 61 (by decide)]
    refine ⟨rfl, ⟨T.SK S, ?_, ?_, ?_, ?_, ?_, ?_, B, b1, b2.keep (T.D (by decide)), ?_⟩, ⟨_, rfl⟩, T.cn⟩
    · rw [r0, T.1 1 (by decide), r35]; exact ⟨rfl, n1.2⟩
    · rw [r0, r35, T.1 34 (by decide), T.1 62 (by decide)]; exact i1
    · rw [T.1 20 (by decide), r35, T.1 21 (by decide), T.1 22 (by decide), T.1 55 (by decide), T.1 56 (by decide)]; exact i2
    · rw [r27, r35, r28, r29, r30, r31, r32, r57, r58, r59, r60, r61]; exact ⟨n + 1, d, e2, va_upS _ _ _, fun j hj => by
        by_cases hj2 : j = n
        · subst hj2
          obtain ⟨b, b5, b6⟩ := ex_le (x := x5) (m := 9999) c.2.2.2.2.2.2.2.1 c.2.2.2.2.2.2.2.2
          simp only [va_upS]
          exact ⟨trivial, trivial, trivial, trivial, trivial, b, by omega, b6⟩
        · simp only [va_upN _ _ hj2]
          exact o4 j (by omega)⟩
    · rw [T.1 2 (by decide), r35, T.1 3 (by decide), T.1 36 (by decide)]; exact i4
    · rw [T.1 5 (by decide), T.1 16 (by decide)]; exact i5
    · rw [r35, T.1 37 (by decide), T.1 38 (by decide), T.1 39 (by decide), T.1 40 (by decide), T.1 41 (by decide), T.1 42 (by decide), T.1 43 (by decide), T.1 45 (by decide)]; exact b3

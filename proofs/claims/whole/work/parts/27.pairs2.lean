theorem nI_i {n : Nat} (h : n < 2147483648) : (nI n).toInt = (n : Int) := nI_toInt h
section P2
variable {h : pm_H} {Q : Option Value → pm_H → Prop} {x1 x2 x3 x4 x5 : Int32}
/-- lot(colour, yarn) of the class and of the model, with n lots there -/
theorem c100 (S : SK h) {n : Nat} (hn : n ≤ 6) (e : zI h 20 2 = nI n) (k2 : x1.toInt < 0 ∨ 7 < x1.toInt ∨ x2.toInt < 0 ∨ 1000000 < x2.toInt → ∀ g, Same [0] h g → zI g 0 = va_up (zI h 0) 0 (Int32.ofInt 2) → Q (some (.int (Int32.ofInt (-1)))) g)
    (k3 : 0 ≤ x1.toInt ∧ x1.toInt ≤ 7 ∧ 0 ≤ x2.toInt ∧ x2.toInt ≤ 1000000 → n = 6 → ∀ g, Same [0] h g → zI g 0 = va_up (zI h 0) 0 (Int32.ofInt 3) → Q (some (.int (Int32.ofInt (-1)))) g)
    (k0 : 0 ≤ x1.toInt ∧ x1.toInt ≤ 7 ∧ 0 ≤ x2.toInt ∧ x2.toInt ≤ 1000000 → n < 6 → ∀ g, Same [0, 20, 21, 22] h g → zI g 0 = va_up (zI h 0) 0 (Int32.ofInt 0) → zI g 20 2 = nI (n + 1) → zI g 21 = va_up (zI h 21) n x1 → zI g 22 = va_up (zI h 22) n x2 → Q (some (.int (nI n))) g) : WP 100 0 [some (.ref 0), some (.int x1), some (.int x2)] [] h Q := by
  have en : (zI h 20 2).toInt = n := by rw [e]; exact nI_i (by omega)
  have ec : (zI h 20 2).toNatClampNeg = n := by rw [e]; exact nI_clamp (by omega)
  have e1 : zI h 20 2 + Int32.ofInt 1 = nI (n + 1) := by rw [e]; exact nI_1 n
  have e2 : nI (n + 1) - Int32.ofInt 1 = nI n := nI_pred n
  have ev : n < 6 → vp_in (zI h 20 2) 6 := fun q => by rw [e]; exact vp_in_nI q (by decide)
  refine V100 S ?_ ?_ ?_ ?_ ?_ ?_ ?_ ?_ ?_ <;> intros <;> simp only [lt_z, lt_oi (n := 8) (by decide) (by decide), le_oi (n := 1000000) (by decide) (by decide), oi_le (n := 8) (by decide) (by decide), oi_lt (n := 1000000) (by decide) (by decide), lt_oi (n := 6) (by decide) (by decide), eq_oi (n := 6) (by decide) (by decide), en] at * <;> first
    | exact k2 (by omega) _ (Same.rf.I 0 _ _ (by decide)) rfl
    | exact k3 (by omega) (by omega) _ (Same.rf.I 0 _ _ (by decide)) rfl
    | exact ev (by omega)
    | (rw [ec, e1, e2]; exact k0 (by omega) (by omega) _ ((((Same.rf.I 21 _ _ (by decide)).I 22 _ _ (by decide)).I 20 _ _ (by decide)).I 0 _ _ (by decide)) rfl (by simp [zI_yI, va_upA]) rfl rfl)
    | (exfalso; omega)
theorem c170 (S : SK h) {n : Nat} (hn : n ≤ 6) (e : zI h 35 39 = nI n) (k2 : x1.toInt < 0 ∨ 7 < x1.toInt ∨ x2.toInt < 0 ∨ 1000000 < x2.toInt → ∀ g, Same [35] h g → zI g 35 = va_up (va_up (va_up (zI h 35) 1 (Int32.ofInt 0)) 0 (Int32.ofInt 0)) 0 (Int32.ofInt 2) → Q (some (.int (Int32.ofInt (-1)))) g)
    (k3 : 0 ≤ x1.toInt ∧ x1.toInt ≤ 7 ∧ 0 ≤ x2.toInt ∧ x2.toInt ≤ 1000000 → n = 6 → ∀ g, Same [35] h g → zI g 35 = va_up (va_up (va_up (zI h 35) 1 (Int32.ofInt 0)) 0 (Int32.ofInt 0)) 0 (Int32.ofInt 3) → Q (some (.int (Int32.ofInt (-1)))) g)
    (k0 : 0 ≤ x1.toInt ∧ x1.toInt ≤ 7 ∧ 0 ≤ x2.toInt ∧ x2.toInt ≤ 1000000 → n < 6 → ∀ g, Same [35, 55, 56] h g → zI g 35 = va_up (va_up (va_up (zI h 35) 1 (Int32.ofInt 0)) 0 (Int32.ofInt 0)) 39 (nI (n + 1)) → zI g 55 = va_up (zI h 55) n x1 → zI g 56 = va_up (zI h 56) n x2 → Q (some (.int (nI n))) g) : WP 170 0 [some (.ref 35), some (.int x1), some (.int x2)] [] h Q := by
  have en : (zI h 35 39).toInt = n := by rw [e]; exact nI_i (by omega)
  have ec : (zI h 35 39).toNatClampNeg = n := by rw [e]; exact nI_clamp (by omega)
  have e1 : zI h 35 39 + Int32.ofInt 1 = nI (n + 1) := by rw [e]; exact nI_1 n
  have e2 : nI (n + 1) - Int32.ofInt 1 = nI n := nI_pred n
  have ev : n < 6 → vp_in (zI h 35 39) 6 := fun q => by rw [e]; exact vp_in_nI q (by decide)
  refine V170 S ?_ ?_ ?_ ?_ ?_ ?_ ?_ ?_ <;> intros <;> simp only [lt_z, lt_oi (n := 8) (by decide) (by decide), le_oi (n := 1000000) (by decide) (by decide), oi_le (n := 8) (by decide) (by decide), oi_lt (n := 1000000) (by decide) (by decide), lt_oi (n := 6) (by decide) (by decide), eq_oi (n := 6) (by decide) (by decide), en] at * <;> first
    | exact k2 (by omega) _ (((Same.rf.I 35 _ _ (by decide)).I 35 _ _ (by decide)).I 35 _ _ (by decide)) rfl
    | exact k3 (by omega) (by omega) _ (((Same.rf.I 35 _ _ (by decide)).I 35 _ _ (by decide)).I 35 _ _ (by decide)) rfl
    | exact ev (by omega)
    | (rw [ec, e1, e2]; exact k0 (by omega) (by omega) _ (((((Same.rf.I 35 _ _ (by decide)).I 35 _ _ (by decide)).I 55 _ _ (by decide)).I 56 _ _ (by decide)).I 35 _ _ (by decide)) rfl rfl rfl)
    | (exfalso; omega)
end P2
theorem ex_le {x : Int32} {m : Nat} (h0 : 0 ≤ x.toInt) (h1 : x.toInt ≤ m) : ∃ n, n ≤ m ∧ x = nI n := by
  obtain ⟨n, e, hn⟩ := ex_nI h0
  exact ⟨n, by omega, e⟩
/-- what stays of the invariant when both refuse -/
theorem INV.no {h g g2 : pm_H} (I : INV h) {v : Int32} (s1 : Same [0] h g) (e1 : zI g 0 = va_up (zI h 0) 0 v) (s2 : Same [35] g g2) (e2 : zI g2 35 = va_up (va_up (va_up (zI g 35) 1 (Int32.ofInt 0)) 0 (Int32.ofInt 0)) 0 v) : INV g2 := by
  obtain ⟨S, n1, i1, i2, i3, i4, i5, B, b1, b2, b3⟩ := I
  have T : Same [0, 35] h g2 := s1.tr s2
  have r0 : zI g2 0 = va_up (zI h 0) 0 v := (s2.1 0 (by decide)).trans e1
  have r35 : zI g2 35 = va_up (va_up (va_up (zI h 35) 1 (Int32.ofInt 0)) 0 (Int32.ofInt 0)) 0 v := by rw [e2, s1.1 35 (by decide)]
  refine ⟨T.SK S, ?_, ?_, ?_, ?_, ?_, ?_, B, b1, b2.keep (T.D (by decide)), ?_⟩
  · rw [r0, r35, T.1 1 (by decide)]; exact ⟨rfl, n1.2⟩
  · rw [r0, r35, T.1 34 (by decide), T.1 62 (by decide)]; exact i1
  · rw [r35, T.1 20 (by decide), T.1 21 (by decide), T.1 22 (by decide), T.1 55 (by decide), T.1 56 (by decide)]; exact i2
  · rw [r35, T.1 27 (by decide), T.1 28 (by decide), T.1 29 (by decide), T.1 30 (by decide), T.1 31 (by decide), T.1 32 (by decide), T.1 57 (by decide), T.1 58 (by decide), T.1 59 (by decide), T.1 60 (by decide), T.1 61 (by decide)]; exact i3
  · rw [r35, T.1 2 (by decide), T.1 3 (by decide), T.1 36 (by decide)]; exact i4
  · rw [T.1 5 (by decide), T.1 16 (by decide)]; exact i5
  · rw [r35, T.1 37 (by decide), T.1 38 (by decide), T.1 39 (by decide), T.1 40 (by decide), T.1 41 (by decide), T.1 42 (by decide), T.1 43 (by decide), T.1 45 (by decide)]; exact b3
theorem Same.cn {L : List Nat} {h g : pm_H} (k : Same L h g) : zn g ≤ zn h + 200 ∧ zk g ≤ zk h + 14000 := by
  rw [k.2.2.2.2.2.1, k.2.2.2.2.2.2]
  exact ⟨Nat.le_add_right _ _, Nat.le_add_right _ _⟩
/-- LOT -/
theorem p_lot {h : pm_H} {x1 x2 : Int32} (I : INV h) : PAIR 100 170 [.int x1, .int x2] h := by
  obtain ⟨S, n1, i1, i2, i3, i4, i5, B, b1, b2, b3⟩ := id I
  obtain ⟨n, o1, o2, o3, o4⟩ := id i2
  refine c100 S o1 o2 (fun c g s1 e1 => ?_) (fun c d g s1 e1 => ?_) (fun c d g s1 e1 e2 e3 e4 => ?_)
  · refine c170 (s1.SK S) o1 (by rw [s1.1 35 (by decide)]; exact o3) (fun c' g2 s2 f1 => ?_) (fun c' d' => by omega) (fun c' d' => by omega)
    exact ⟨rfl, I.no s1 e1 s2 f1, ⟨_, rfl⟩, (s1.tr s2).cn⟩
  · refine c170 (s1.SK S) o1 (by rw [s1.1 35 (by decide)]; exact o3) (fun c' => by omega) (fun c' d' g2 s2 f1 => ?_) (fun c' d' => by omega)
    exact ⟨rfl, I.no s1 e1 s2 f1, ⟨_, rfl⟩, (s1.tr s2).cn⟩
  · refine c170 (s1.SK S) o1 (by rw [s1.1 35 (by decide)]; exact o3) (fun c' => by omega) (fun c' d' => by omega) (fun c' d' g2 s2 f1 f2 f3 => ?_)
    have T : Same [0, 20, 21, 22, 35, 55, 56] h g2 := s1.tr s2
    have r0 : zI g2 0 = va_up (zI h 0) 0 (Int32.ofInt 0) := (s2.1 0 (by decide)).trans e1
    have r35 : zI g2 35 = va_up (va_up (va_up (zI h 35) 1 (Int32.ofInt 0)) 0 (Int32.ofInt 0)) 39 (nI (n + 1)) := by rw [f1, s1.1 35 (by decide)]
    refine ⟨rfl, ⟨T.SK S, ?_, ?_, ?_, ?_, ?_, ?_, B, b1, b2.keep (T.D (by decide)), ?_⟩, ⟨_, rfl⟩, T.cn⟩
    · rw [r0, r35, T.1 1 (by decide)]; exact ⟨rfl, n1.2⟩
    · rw [r0, r35, T.1 34 (by decide), T.1 62 (by decide)]; exact i1
    · rw [r35, s2.1 20 (by decide), s2.1 21 (by decide), s2.1 22 (by decide), e2, e3, e4, f2, f3, s1.1 55 (by decide), s1.1 56 (by decide)]
      refine ⟨n + 1, d, rfl, va_upS _ _ _, fun j hj => ?_⟩
      by_cases hj2 : j = n
      · subst hj2
        obtain ⟨a, a1, a2⟩ := ex_le (x := x1) (m := 7) c.1 c.2.1
        obtain ⟨b, b5, b6⟩ := ex_le (x := x2) (m := 1000000) c.2.2.1 c.2.2.2
        simp only [va_upS]
        exact ⟨trivial, trivial, ⟨a, by omega, a2⟩, b, b5, b6⟩
      · simp only [va_upN _ _ hj2]
        exact o4 j (by omega)
    · rw [r35, T.1 27 (by decide), T.1 28 (by decide), T.1 29 (by decide), T.1 30 (by decide), T.1 31 (by decide), T.1 32 (by decide), T.1 57 (by decide), T.1 58 (by decide), T.1 59 (by decide), T.1 60 (by decide), T.1 61 (by decide)]; exact i3
    · rw [r35, T.1 2 (by decide), T.1 3 (by decide), T.1 36 (by decide)]; exact i4
    · rw [T.1 5 (by decide), T.1 16 (by decide)]; exact i5
    · rw [r35, T.1 37 (by decide), T.1 38 (by decide), T.1 39 (by decide), T.1 40 (by decide), T.1 41 (by decide), T.1 42 (by decide), T.1 43 (by decide), T.1 45 (by decide)]; exact b3

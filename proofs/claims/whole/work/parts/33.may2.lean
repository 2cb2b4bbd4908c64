section MAY3
variable {h : pm_H} {Q : Option Value → pm_H → Prop} {x1 x2 x3 x4 : Int32}
theorem c105 (S : SK h) {n : Nat} (hn : n ≤ 60) (e : zI h 27 5 = nI n) (ht : ∀ j, j < n → ∃ t, t < 10000 ∧ zI h 32 j = nI t) (k2 : ¬ (0 ≤ x1.toInt ∧ x1.toInt ≤ 25 ∧ 0 ≤ x2.toInt ∧ x2.toInt ≤ 9 ∧ 0 ≤ x3.toInt ∧ x3.toInt ≤ 9999 ∧ 0 ≤ x4.toInt ∧ x4.toInt ≤ 9999) → ∀ g, Same [0] h g → zI g 0 = va_up (zI h 0) 0 (Int32.ofInt 2) → Q (some (.int (Int32.ofInt (-1)))) g)
    (k0 : 0 ≤ x1.toInt ∧ x1.toInt ≤ 25 ∧ 0 ≤ x2.toInt ∧ x2.toInt ≤ 9 ∧ 0 ≤ x3.toInt ∧ x3.toInt ≤ 9999 ∧ 0 ≤ x4.toInt ∧ x4.toInt ≤ 9999 → ∀ g, Same [0] h g → zI g 0 = va_up (zI h 0) 0 (Int32.ofInt 0) → Q (some (.int (mayA (mayF (zI h 28) (zI h 30) (zI h 31) (zI h 32) x1 x3 x4 n) x2 (zI h 29)))) g) : WP 105 0 [some (.ref 0), some (.int x1), some (.int x2), some (.int x3), some (.int x4)] [] h Q := by
  refine V105 S ?_ ?_ ?_ ?_ ?_ ?_ ?_ ?_ ?_ <;> intros <;> simp only [lt_z, lt_oi (n := 26) (by decide) (by decide), lt_oi (n := 10) (by decide) (by decide), lt_oi (n := 10000) (by decide) (by decide)] at * <;> first
    | exact k2 (by omega) _ (Same.rf.I 0 _ _ (by decide)) rfl
    | skip
  have kk := k0 (by omega)
  refine V48 S (c48L S hn e ht ?_ n 0 none (by omega))
  refine V105b S (fun c => ?_) (fun c => ?_)
  · have q := kk (yI h 0 0 (Int32.ofInt 0)) (Same.rf.I 0 _ _ (by decide)) rfl
    suffices z : mayA (mayF (zI h 28) (zI h 30) (zI h 31) (zI h 32) x1 x3 x4 n) x2 (zI h 29) = Int32.ofInt 0 by rw [z] at q; exact q
    cases hr : mayF (zI h 28) (zI h 30) (zI h 31) (zI h 32) x1 x3 x4 n with
    | none =>
      rw [hr] at c
      exact absurd (show x2.toInt < 0 from lt_z.mp c) (by omega)
    | some j =>
      rw [hr] at c
      exact if_pos c
  · have q := kk (yI h 0 0 (Int32.ofInt 0)) (Same.rf.I 0 _ _ (by decide)) rfl
    suffices z : mayA (mayF (zI h 28) (zI h 30) (zI h 31) (zI h 32) x1 x3 x4 n) x2 (zI h 29) = Int32.ofInt 1 by rw [z] at q; exact q
    cases hr : mayF (zI h 28) (zI h 30) (zI h 31) (zI h 32) x1 x3 x4 n with
    | none => rfl
    | some j =>
      rw [hr] at c
      exact if_neg c
theorem c177 (S : SK h) {n : Nat} (hn : n ≤ 60) (e : zI h 35 42 = nI n) (k2 : ¬ (0 ≤ x1.toInt ∧ x1.toInt ≤ 25 ∧ 0 ≤ x2.toInt ∧ x2.toInt ≤ 9 ∧ 0 ≤ x3.toInt ∧ x3.toInt ≤ 9999 ∧ 0 ≤ x4.toInt ∧ x4.toInt ≤ 9999) → ∀ g, Same [35] h g → zI g 35 = va_up (va_up (va_up (zI h 35) 1 (Int32.ofInt 0)) 0 (Int32.ofInt 0)) 0 (Int32.ofInt 2) → Q (some (.int (Int32.ofInt (-1)))) g)
    (k0 : 0 ≤ x1.toInt ∧ x1.toInt ≤ 25 ∧ 0 ≤ x2.toInt ∧ x2.toInt ≤ 9 ∧ 0 ≤ x3.toInt ∧ x3.toInt ≤ 9999 ∧ 0 ≤ x4.toInt ∧ x4.toInt ≤ 9999 → ∀ g, Same [35] h g → zI g 35 = va_up (va_up (zI h 35) 1 (Int32.ofInt 0)) 0 (Int32.ofInt 0) → Q (some (.int (mayA (mayF (zI h 57) (zI h 59) (zI h 60) (zI h 61) x1 x3 x4 n) x2 (zI h 58)))) g) : WP 177 0 [some (.ref 35), some (.int x1), some (.int x2), some (.int x3), some (.int x4), none, none] [] h Q := by
  refine V177 S ?_ ?_ ?_ ?_ ?_ ?_ ?_ ?_ ?_ <;> intros <;> simp only [lt_z, oi_lt (n := 25) (by decide) (by decide), oi_lt (n := 9) (by decide) (by decide), oi_lt (n := 9999) (by decide) (by decide)] at * <;> first
    | exact k2 (by omega) _ (((Same.rf.I 35 _ _ (by decide)).I 35 _ _ (by decide)).I 35 _ _ (by decide)) rfl
    | skip
  have kk := k0 (by omega) (yI (yI h 35 1 (Int32.ofInt 0)) 35 0 (Int32.ofInt 0)) ((Same.rf.I 35 _ _ (by decide)).I 35 _ _ (by decide)) rfl
  have hs : Same [35] h (yI (yI h 35 1 (Int32.ofInt 0)) 35 0 (Int32.ofInt 0)) := (Same.rf.I 35 _ _ (by decide)).I 35 _ _ (by decide)
  have e9 : zI (yI (yI h 35 1 (Int32.ofInt 0)) 35 0 (Int32.ofInt 0)) 35 42 = nI n := e
  generalize yI (yI h 35 1 (Int32.ofInt 0)) 35 0 (Int32.ofInt 0) = g at hs e9 kk ⊢
  rw [← hs.1 57 (by decide), ← hs.1 58 (by decide), ← hs.1 59 (by decide), ← hs.1 60 (by decide), ← hs.1 61 (by decide)] at kk
  exact c177L (hs.SK S) hn e9 kk n 0 (by omega)
end MAY3
theorem mayF_congr {a b c d a' b' c' d' : Nat → Int32} {x1 x3 x4 : Int32} : ∀ {n : Nat}, (∀ j, j < n → a j = a' j ∧ b j = b' j ∧ c j = c' j ∧ d j = d' j) → mayF a b c d x1 x3 x4 n = mayF a' b' c' d' x1 x3 x4 n
  | 0, _ => rfl
  | k + 1, hq => by
    have ih := mayF_congr (x1 := x1) (x3 := x3) (x4 := x4) (n := k) (fun j hj => hq j (by omega))
    obtain ⟨q1, q2, q3, q4⟩ := hq k (by omega)
    unfold mayF
    rw [ih, q1, q2, q3, q4]
    have e : (∀ j, mayF a' b' c' d' x1 x3 x4 k = some j → ¬ d' k < d j) ↔ (∀ j, mayF a' b' c' d' x1 x3 x4 k = some j → ¬ d' k < d' j) := by
      constructor
      · intro z j hj
        have := z j hj
        rwa [(hq j (by have := mayF_lt hj; omega)).2.2.2] at this
      · intro z j hj
        have := z j hj
        rwa [(hq j (by have := mayF_lt hj; omega)).2.2.2]
    simp only [e]
/-- MAY -/
theorem p_may {h : pm_H} {x1 x2 x3 x4 : Int32} (I : INV h) : PAIR 105 177 [.int x1, .int x2, .int x3, .int x4] h := by
  obtain ⟨S, n1, i1, i2, i3, i4, i5, B, b1, b2, b3⟩ := id I
  obtain ⟨n, o1, o2, o3, o4⟩ := id i3
  refine c105 S o1 o2 (fun j hj => (o4 j hj).2.2.2.2.2) (fun c g s1 e1 => ?_) (fun c g s1 e1 => ?_)
  · refine c177 (s1.SK S) o1 (by rw [s1.1 35 (by decide)]; exact o3) (fun c' g2 s2 f1 => ?_) (fun c' => absurd c' c)
    exact ⟨rfl, I.no s1 e1 s2 f1, ⟨_, rfl⟩, (s1.tr s2).cn⟩
  · refine c177 (s1.SK S) o1 (by rw [s1.1 35 (by decide)]; exact o3) (fun c' => absurd c c') (fun c' g2 s2 f1 => ?_)
    have T : Same [0, 35] h g2 := s1.tr s2
    have r0 : zI g2 0 = va_up (zI h 0) 0 (Int32.ofInt 0) := (s2.1 0 (by decide)).trans e1
    have r35 : zI g2 35 = va_up (va_up (zI h 35) 1 (Int32.ofInt 0)) 0 (Int32.ofInt 0) := by rw [f1, s1.1 35 (by decide)]
    refine ⟨?_, ⟨T.SK S, ?_, ?_, ?_, ?_, ?_, ?_, B, b1, b2.keep (T.D (by decide)), ?_⟩, ⟨_, rfl⟩, T.cn⟩
    · rw [s1.1 57 (by decide), s1.1 58 (by decide), s1.1 59 (by decide), s1.1 60 (by decide), s1.1 61 (by decide)]
      have e : mayF (zI h 28) (zI h 30) (zI h 31) (zI h 32) x1 x3 x4 n = mayF (zI h 57) (zI h 59) (zI h 60) (zI h 61) x1 x3 x4 n := mayF_congr (fun j hj => ⟨(o4 j hj).1, (o4 j hj).2.2.1, (o4 j hj).2.2.2.1, (o4 j hj).2.2.2.2.1⟩)
      rw [e]
      cases hr : mayF (zI h 57) (zI h 59) (zI h 60) (zI h 61) x1 x3 x4 n with
      | none => rfl
      | some j =>
        have hj := mayF_lt hr
        show some (Value.int (if x2 < zI h 29 j then Int32.ofInt 0 else Int32.ofInt 1)) = some (Value.int (if x2 < zI h 58 j then Int32.ofInt 0 else Int32.ofInt 1))
        rw [(o4 j hj).2.1]
    · rw [r0, T.1 1 (by decide), r35]; exact ⟨rfl, n1.2⟩
    · rw [r0, r35, T.1 34 (by decide), T.1 62 (by decide)]; exact i1
    · rw [T.1 20 (by decide), r35, T.1 21 (by decide), T.1 22 (by decide), T.1 55 (by decide), T.1 56 (by decide)]; exact i2
    · rw [T.1 27 (by decide), r35, T.1 28 (by decide), T.1 29 (by decide), T.1 30 (by decide), T.1 31 (by decide), T.1 32 (by decide), T.1 57 (by decide), T.1 58 (by decide), T.1 59 (by decide), T.1 60 (by decide), T.1 61 (by decide)]; exact i3
    · rw [T.1 2 (by decide), r35, T.1 3 (by decide), T.1 36 (by decide)]; exact i4
    · rw [T.1 5 (by decide), T.1 16 (by decide)]; exact i5
    · rw [r35, T.1 37 (by decide), T.1 38 (by decide), T.1 39 (by decide), T.1 40 (by decide), T.1 41 (by decide), T.1 42 (by decide), T.1 43 (by decide), T.1 45 (by decide)]; exact b3

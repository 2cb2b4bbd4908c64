/-- FEED -/
theorem p_feed {h : pm_H} {x1 x2 x3 x4 x5 : Int32} (I : INV h) : PAIR 86 143 [.int x1, .int x2, .int x3, .int x4, .int x5] h := by
  obtain ⟨S, n1, i1, i2, i3, i4, i5, B, b1, b2, b3⟩ := id I
  obtain ⟨n, o1, o2, o3, o4⟩ := id i4
  refine c86 S o1 o2 (fun c => ?_) (fun c g s1 e1 e2 => ?_)
  · refine c143 S o1 o3 (fun _ g2 T f1 f2 => ?_) (fun c' => by omega)
    refine ⟨rfl, ⟨T.SK S, ?_, ?_, ?_, ?_, ?_, ?_, B, b1, b2.keep (T.D (by decide)), ?_⟩, ⟨_, rfl⟩, T.cn⟩
    · rw [T.1 0 (by decide), T.1 1 (by decide), f2 0 (by decide), f2 37 (by decide), f2 38 (by decide), f2 5 (by decide), f2 6 (by decide)]; exact n1
    · rw [T.1 0 (by decide), f2 49 (by decide), T.1 34 (by decide), T.1 62 (by decide)]; exact i1
    · rw [T.1 20 (by decide), f2 39 (by decide), T.1 21 (by decide), T.1 22 (by decide), T.1 55 (by decide), T.1 56 (by decide)]; exact i2
    · rw [f2 42 (by decide), T.1 27 (by decide), T.1 28 (by decide), T.1 29 (by decide), T.1 30 (by decide), T.1 31 (by decide), T.1 32 (by decide), T.1 57 (by decide), T.1 58 (by decide), T.1 59 (by decide), T.1 60 (by decide), T.1 61 (by decide)]; exact i3
    · rw [T.1 2 (by decide), f2 3 (by decide), T.1 3 (by decide), f1]; exact i4
    · rw [T.1 5 (by decide), T.1 16 (by decide)]; exact i5
    · rw [f2 15 (by decide), f2 16 (by decide), T.1 37 (by decide), T.1 38 (by decide), T.1 39 (by decide), T.1 40 (by decide), T.1 41 (by decide), T.1 42 (by decide), T.1 43 (by decide), T.1 45 (by decide)]; exact b3
  · refine c143 (s1.SK S) o1 (by rw [s1.1 35 (by decide)]; exact o3) (fun c' => by omega) (fun _ g2 s2 f1 f2 f3 => ?_)
    have T : Same [2, 3, 35, 36] h g2 := s1.tr s2
    have v : ∀ k, k ≠ 1 → k ≠ 3 → zI g2 35 k = zI h 35 k := fun k k1 k3 => by rw [f2 k k1 k3, s1.1 35 (by decide)]
    have r2 : zI g2 2 1 = nI (n + 20) := by rw [s2.1 2 (by decide)]; exact e1
    have r3 : zI g2 3 = lay20 (zI h 3) n x1 x2 x3 x4 x5 := (s2.1 3 (by decide)).trans e2
    have r36 : zI g2 36 = lay20 (zI h 36) n x1 x2 x3 x4 x5 := by rw [f3, s1.1 36 (by decide)]
    refine ⟨rfl, ⟨T.SK S, ?_, ?_, ?_, ?_, ?_, ?_, B, b1, b2.keep (T.D (by decide)), ?_⟩, ⟨_, rfl⟩, T.cn⟩
    · rw [T.1 0 (by decide), T.1 1 (by decide), v 0 (by decide) (by decide), v 37 (by decide) (by decide), v 38 (by decide) (by decide), v 5 (by decide) (by decide), v 6 (by decide) (by decide)]; exact n1
    · rw [T.1 0 (by decide), v 49 (by decide) (by decide), T.1 34 (by decide), T.1 62 (by decide)]; exact i1
    · rw [T.1 20 (by decide), v 39 (by decide) (by decide), T.1 21 (by decide), T.1 22 (by decide), T.1 55 (by decide), T.1 56 (by decide)]; exact i2
    · rw [v 42 (by decide) (by decide), T.1 27 (by decide), T.1 28 (by decide), T.1 29 (by decide), T.1 30 (by decide), T.1 31 (by decide), T.1 32 (by decide), T.1 57 (by decide), T.1 58 (by decide), T.1 59 (by decide), T.1 60 (by decide), T.1 61 (by decide)]; exact i3
    · rw [r2, f1, r3, r36]
      exact ⟨n + 20, c, rfl, rfl, lay20_eq o4⟩
    · rw [T.1 5 (by decide), T.1 16 (by decide)]; exact i5
    · rw [v 15 (by decide) (by decide), v 16 (by decide) (by decide), T.1 37 (by decide), T.1 38 (by decide), T.1 39 (by decide), T.1 40 (by decide), T.1 41 (by decide), T.1 42 (by decide), T.1 43 (by decide), T.1 45 (by decide)]; exact b3

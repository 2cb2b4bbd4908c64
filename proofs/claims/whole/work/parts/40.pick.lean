theorem INV.ok {h g g2 : pm_H} (I : INV h) (s1 : Same [0] h g) (e1 : zI g 0 = va_up (zI h 0) 0 (Int32.ofInt 0)) (s2 : Same [35] g g2) (e2 : zI g2 35 = va_up (va_up (zI g 35) 1 (Int32.ofInt 0)) 0 (Int32.ofInt 0)) : INV g2 := by
  obtain ⟨S, n1, i1, i2, i3, i4, i5, B, b1, b2, b3⟩ := I
  have T : Same [0, 35] h g2 := s1.tr s2
  have r0 : zI g2 0 = va_up (zI h 0) 0 (Int32.ofInt 0) := (s2.1 0 (by decide)).trans e1
  have r35 : zI g2 35 = va_up (va_up (zI h 35) 1 (Int32.ofInt 0)) 0 (Int32.ofInt 0) := by rw [e2, s1.1 35 (by decide)]
  refine ⟨T.SK S, ?_, ?_, ?_, ?_, ?_, ?_, B, b1, b2.keep (T.D (by decide)), ?_⟩
  · rw [r0, T.1 1 (by decide), r35]; exact ⟨rfl, n1.2⟩
  · rw [r0, r35, T.1 34 (by decide), T.1 62 (by decide)]; exact i1
  · rw [T.1 20 (by decide), r35, T.1 21 (by decide), T.1 22 (by decide), T.1 55 (by decide), T.1 56 (by decide)]; exact i2
  · rw [T.1 27 (by decide), r35, T.1 28 (by decide), T.1 29 (by decide), T.1 30 (by decide), T.1 31 (by decide), T.1 32 (by decide), T.1 57 (by decide), T.1 58 (by decide), T.1 59 (by decide), T.1 60 (by decide), T.1 61 (by decide)]; exact i3
  · rw [T.1 2 (by decide), r35, T.1 3 (by decide), T.1 36 (by decide)]; exact i4
  · rw [T.1 5 (by decide), T.1 16 (by decide)]; exact i5
  · rw [r35, T.1 37 (by decide), T.1 38 (by decide), T.1 39 (by decide), T.1 40 (by decide), T.1 41 (by decide), T.1 42 (by decide), T.1 43 (by decide), T.1 45 (by decide)]; exact b3
section PICK
variable {h : pm_H} {Q : Option Value → pm_H → Prop} {x1 x2 : Int32}
theorem c90 (S : SK h) {b : Nat} {B : Bk} (h2 : zR h 0 2 = some b) (hb : atB h b B) (bo : bk_ok B) (k1 : x1.toInt < 0 ∨ (B.1.length : Int) ≤ x1.toInt → ∀ g, Same [0] h g → zI g 0 = va_up (zI h 0) 0 (Int32.ofInt 1) → Q (some (.int (Int32.ofInt (-1)))) g)
    (k2 : ∀ s (hs : s < B.1.length), x1 = nI s → x2.toInt < 0 ∨ (B.1[s].2.length : Int) ≤ x2.toInt → ∀ g, Same [0] h g → zI g 0 = va_up (zI h 0) 0 (Int32.ofInt 2) → Q (some (.int (Int32.ofInt (-1)))) g)
    (k0 : ∀ s (hs : s < B.1.length), x1 = nI s → ∀ k, k < B.1[s].2.length → x2 = nI k → ∀ g, Same [0] h g → zI g 0 = va_up (zI h 0) 0 (Int32.ofInt 0) → Q (some (.int (nI (B.1[s].2.getD k 0)))) g) : WP 90 0 [some (.ref 0), some (.int x1), some (.int x2), none] [] h Q := by
  refine V90 S h2 hb.2.1 (c15 S hb bo (fun c => ?_) (fun s hs es p hp => ?_))
  · exact V90n S (k1 c _ (Same.rf.I 0 _ _ (by decide)) rfl)
  · obtain ⟨q1, q2, q3, pa, ea, q4, q5, q6, q7, q8, -⟩ := hp
    have hl := (bo.2.2.1 _ (List.getElem_mem hs)).2.2.1
    have el : x2 < Int32.ofInt (zN h pa) ↔ x2.toInt < B.1[s].2.length := by rw [q7, lt_oi (by omega) (by omega)]
    refine V90r (b4 := pa) S (fun c => ?_) (fun _ => q2) (fun _ => q4) (fun _ => by rw [q6]; decide) (fun _ _ => q2) (fun _ _ => q6) (fun c d => ?_) (fun c d => ?_) (fun c d => ?_)
    · exact k2 s hs es (Or.inl (lt_z.mp c)) _ (Same.rf.I 0 _ _ (by decide)) rfl
    · rw [lt_z] at c; rw [el] at d
      obtain ⟨k, ek, hk⟩ := ex_nI (x := x2) (by omega)
      rw [q7, ek]; exact vp_in_nI (by omega) (by omega)
    · rw [lt_z] at c; rw [el] at d
      obtain ⟨k, ek, hk⟩ := ex_nI (x := x2) (by omega)
      have hk' : k < B.1[s].2.length := by omega
      rw [show x2.toNatClampNeg = k by rw [ek]; exact nI_clamp (by omega), q8 k hk']
      exact k0 s hs es k hk' ek _ (Same.rf.I 0 _ _ (by decide)) rfl
    · rw [lt_z] at c; rw [el] at d
      exact k2 s hs es (Or.inr (by omega)) _ (Same.rf.I 0 _ _ (by decide)) rfl
end PICK

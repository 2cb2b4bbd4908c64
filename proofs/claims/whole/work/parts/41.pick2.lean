section PICK2
variable {h : pm_H} {Q : Option Value → pm_H → Prop} {x1 x2 : Int32}
theorem c150 (S : SK h) {B : Bk} (bo : bk_ok B) (m15 : zI h 35 15 = nI B.1.length) (ms : ∀ s (hs : s < B.1.length), zI h 37 s = nI (B.1[s].1 + 1) ∧ zI h 38 s = nI B.1[s].2.length ∧ ∀ k, k < B.1[s].2.length → zI h 45 (400 * s + k) = nI (B.1[s].2.getD k 0)) (k1 : x1.toInt < 0 ∨ (B.1.length : Int) ≤ x1.toInt → ∀ g, Same [35] h g → zI g 35 = va_up (va_up (va_up (zI h 35) 1 (Int32.ofInt 0)) 0 (Int32.ofInt 0)) 0 (Int32.ofInt 1) → Q (some (.int (Int32.ofInt (-1)))) g)
    (k2 : ∀ s (hs : s < B.1.length), x1 = nI s → x2.toInt < 0 ∨ (B.1[s].2.length : Int) ≤ x2.toInt → ∀ g, Same [35] h g → zI g 35 = va_up (va_up (va_up (zI h 35) 1 (Int32.ofInt 0)) 0 (Int32.ofInt 0)) 0 (Int32.ofInt 2) → Q (some (.int (Int32.ofInt (-1)))) g)
    (k0 : ∀ s (hs : s < B.1.length), x1 = nI s → ∀ k, k < B.1[s].2.length → x2 = nI k → ∀ g, Same [35] h g → zI g 35 = va_up (va_up (zI h 35) 1 (Int32.ofInt 0)) 0 (Int32.ofInt 0) → Q (some (.int (nI (B.1[s].2.getD k 0)))) g) : WP 150 0 [some (.ref 35), some (.int x1), some (.int x2)] [] h Q := by
  have hl := bo.1
  have en : (zI h 35 15).toInt = B.1.length := by rw [m15]; exact nI_i (by omega)
  have el : zI h 35 15 ≤ x1 ↔ (B.1.length : Int) ≤ x1.toInt := by rw [Int32.le_iff_toInt_le, en]
  by_cases hin : 0 ≤ x1.toInt ∧ x1.toInt < B.1.length
  · obtain ⟨s, es, hs⟩ := ex_nI hin.1
    have hs' : s < B.1.length := by omega
    have hc : x1.toNatClampNeg = s := by rw [es]; exact nI_clamp (by omega)
    obtain ⟨r1, r2, r3⟩ := ms s hs'
    have hp := (bo.2.2.1 _ (List.getElem_mem hs')).2.2.1
    have e2 : x2 < zI h 38 x1.toNatClampNeg ↔ x2.toInt < B.1[s].2.length := by rw [hc, r2, Int32.lt_iff_toInt_lt, nI_i (by omega)]
    have e4 : ∀ k, Int32.ofInt 400 * x1 + nI k = nI (400 * s + k) := fun k => by rw [es, show Int32.ofInt 400 = nI 400 from rfl, pk_mul, nI_add]
    refine V150 S (fun c => ?_) (fun c d => ?_) (fun c d f => ?_) (fun c d f => ?_) (fun c d f i => ?_) (fun c d f i => ?_) (fun c d f i => ?_)
    · rw [lt_z] at c; omega
    · rw [el] at d; omega
    · exact k2 s hs' es (Or.inl (lt_z.mp f)) _ (((Same.rf.I 35 _ _ (by decide)).I 35 _ _ (by decide)).I 35 _ _ (by decide)) rfl
    · rw [es]; exact vp_in_nI (by omega) (by decide)
    · rw [lt_z] at f; rw [e2] at i
      obtain ⟨k, ek, hk⟩ := ex_nI (x := x2) (by omega)
      rw [ek, e4]; exact vp_in_nI (by omega) (by decide)
    · rw [lt_z] at f; rw [e2] at i
      obtain ⟨k, ek, hk⟩ := ex_nI (x := x2) (by omega)
      have hk' : k < B.1[s].2.length := by omega
      rw [ek, e4, nI_clamp (by omega), r3 k hk']
      exact k0 s hs' es k hk' ek _ ((Same.rf.I 35 _ _ (by decide)).I 35 _ _ (by decide)) rfl
    · rw [lt_z] at f; rw [e2] at i
      exact k2 s hs' es (Or.inr (by omega)) _ (((Same.rf.I 35 _ _ (by decide)).I 35 _ _ (by decide)).I 35 _ _ (by decide)) rfl
  · have hk := k1 (by omega)
    refine V150 S (fun c => hk _ (((Same.rf.I 35 _ _ (by decide)).I 35 _ _ (by decide)).I 35 _ _ (by decide)) rfl) (fun c d => hk _ (((Same.rf.I 35 _ _ (by decide)).I 35 _ _ (by decide)).I 35 _ _ (by decide)) rfl) (fun c d => ?_) (fun c d => ?_) (fun c d => ?_) (fun c d => ?_) (fun c d => ?_) <;> (rw [lt_z] at c; rw [el] at d; exfalso; omega)
end PICK2
/-- PICK -/
theorem p_pick {h : pm_H} {x1 x2 : Int32} (I : INV h) : PAIR 90 150 [.int x1, .int x2] h := by
  obtain ⟨S, n1, i1, i2, i3, i4, i5, B, b1, ⟨b, b2, b4⟩, b3⟩ := id I
  have m15 := b3.1
  have hl := b1.1
  have ms := b3.2.2.1
  refine c90 S b2 b4 b1 (fun c g s1 e1 => ?_) (fun s hs es c g s1 e1 => ?_) (fun s hs es k hk ek g s1 e1 => ?_) <;>
    refine c150 (B := B) (s1.SK S) b1 (by rw [s1.1 35 (by decide)]; exact m15) (by rw [s1.1 37 (by decide), s1.1 38 (by decide), s1.1 45 (by decide)]; exact ms) (fun c' g2 s2 f1 => ?_) (fun s' hs' es' c' g2 s2 f1 => ?_) (fun s' hs' es' k' hk' ek' g2 s2 f1 => ?_)
  · exact ⟨rfl, I.no s1 e1 s2 f1, ⟨_, rfl⟩, (s1.tr s2).cn⟩
  · rw [es', nI_i (by omega)] at c; omega
  · rw [es', nI_i (by omega)] at c; omega
  · rw [es, nI_i (by omega)] at c'; omega
  · exact ⟨rfl, I.no s1 e1 s2 f1, ⟨_, rfl⟩, (s1.tr s2).cn⟩
  · obtain rfl : s = s' := (nI_eq (by omega) (by omega)).mp (es.symm.trans es')
    have hp := (b1.2.2.1 _ (List.getElem_mem hs)).2.2.1
    rw [ek', nI_i (by omega)] at c; omega
  · rw [es, nI_i (by omega)] at c'; omega
  · obtain rfl : s = s' := (nI_eq (by omega) (by omega)).mp (es.symm.trans es')
    have hp := (b1.2.2.1 _ (List.getElem_mem hs)).2.2.1
    rw [ek, nI_i (by omega)] at c'; omega
  · obtain rfl : s = s' := (nI_eq (by omega) (by omega)).mp (es.symm.trans es')
    have hp := (b1.2.2.1 _ (List.getElem_mem hs)).2.2.1
    obtain rfl : k = k' := (nI_eq (by omega) (by omega)).mp (ek.symm.trans ek')
    exact ⟨rfl, I.ok s1 e1 s2 f1, ⟨_, rfl⟩, (s1.tr s2).cn⟩

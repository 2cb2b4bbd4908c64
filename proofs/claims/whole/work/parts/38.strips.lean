theorem B15_22n {h : pm_H} {Q : Option Value → pm_H → Prop} {d0 : Option Value} {d1 : Option Value} (k : Q (some .null) h) : WP 15 22 [d0, d1] [.null] h Q :=
  WP.rt rfl trivial k
theorem V15 {h : pm_H} {Q : Option Value → pm_H → Prop} {r0 : Nat} {x1 : Int32} {b6 : Nat} {b9 : Nat} (S : SK h) (k2 : (x1 < 0) → Q (some (.null)) h) (t3 : (¬ x1 < 0) → zT h r0 = 2) (t5 : (¬ x1 < 0) → (x1 < (zI h r0 1)) → zT h r0 = 2) (e7 : (¬ x1 < 0) → (x1 < (zI h r0 1)) → zR h r0 0 = some b6) (g8 : (¬ x1 < 0) → (x1 < (zI h r0 1)) → (zT h b6 = 103 ∨ zT h b6 = 104 ∨ zT h b6 = 105) ∧ vp_in x1 (zN h b6)) (e10 : (¬ x1 < 0) → (x1 < (zI h r0 1)) → zR h b6 (x1).toNatClampNeg = some b9) (k11 : (¬ x1 < 0) → (x1 < (zI h r0 1)) → Q (some (.ref b9)) h) (k12 : (¬ x1 < 0) → (¬ x1 < (zI h r0 1)) → Q (some (.null)) h) : WP 15 0 [some (.ref r0), some (.int x1)] [] h Q :=
  B15_0 (fun c1 => B15_12 (B15_22n (k2 c1))) (fun c1 => B15_4 (t3 c1) (fun c4 => B15_16 (t5 c1 c4) (e7 c1 c4) (g8 c1 c4) (e10 c1 c4) (B15_22 (k11 c1 c4))) (fun c4 => B15_12 (B15_22n (k12 c1 c4))))
section STR
variable {h : pm_H} {Q : Option Value → pm_H → Prop} {x1 : Int32}
/-- Book.stripNumbered -/
theorem c15 (S : SK h) {b : Nat} {B : Bk} (hb : atB h b B) (bo : bk_ok B) (k0 : x1.toInt < 0 ∨ (B.1.length : Int) ≤ x1.toInt → Q (some .null) h) (k1 : ∀ s (hs : s < B.1.length), x1 = nI s → ∀ p, atS h p B.1[s] → Q (some (.ref p)) h) : WP 15 0 [some (.ref b), some (.int x1)] [] h Q := by
  obtain ⟨q1, q2, q3, q4, sa, ca, q5, q6, q7, q8, q9, q10, q11, q12, q13, q14⟩ := hb
  have hl := bo.1
  have en : (zI h b 1).toInt = B.1.length := by rw [q3]; exact nI_i (by omega)
  have el : x1 < zI h b 1 ↔ x1.toInt < B.1.length := by rw [Int32.lt_iff_toInt_lt, en]
  by_cases hin : 0 ≤ x1.toInt ∧ x1.toInt < B.1.length
  · obtain ⟨s, es, hs⟩ := ex_nI hin.1
    have hs' : s < B.1.length := by omega
    obtain ⟨p, p1, p2⟩ := q13 s hs'
    have hc : x1.toNatClampNeg = s := by rw [es]; exact nI_clamp (by omega)
    refine V15 (b6 := sa) (b9 := p) S (fun c => ?_) (fun _ => q2) (fun _ _ => q2) (fun _ _ => q5) (fun _ _ => ⟨Or.inl q7, ?_⟩) (fun _ _ => ?_) (fun _ _ => k1 s hs' es p p2) (fun _ c => ?_)
    · rw [lt_z] at c; omega
    · rw [q8, es]; exact vp_in_nI (by omega) (by decide)
    · rw [hc]; exact p1
    · rw [el] at c; omega
  · have hk := k0 (by omega)
    refine V15 (b6 := sa) (b9 := 0) S (fun _ => hk) (fun _ => q2) (fun c d => q2) (fun c d => q5) (fun c d => ?_) (fun c d => ?_) (fun c d => ?_) (fun _ _ => hk) <;> (rw [lt_z] at c; rw [el] at d; exfalso; omega)
end STR

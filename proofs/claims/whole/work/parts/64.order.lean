theorem V96 {h : pm_H} {Q : Option Value → pm_H → Prop} {x1 : Int32} {d2 : Option Value} {b1 : Nat} (S : SK h) (e2 : zR h 0 2 = some b1) (t3 : zT h b1 = 2) (k4 : WP 16 0 [some (.ref b1), some (.int x1)] [] h (fun v1 h1 => WP 96 8 [some (.ref 0), some (.int x1), d2] (v1.toList ++ []) h1 Q)) : WP 96 0 [some (.ref 0), some (.int x1), d2] [] h Q :=
  B96_0 (S.T 0) e2 t3 k4
theorem V96n {h : pm_H} {Q : Option Value → pm_H → Prop} {x1 : Int32} {d2 : Option Value} (S : SK h) (k1 : Q (some (.int (Int32.ofInt (-1)))) (yI h 0 0 (Int32.ofInt 1))) : WP 96 8 [some (.ref 0), some (.int x1), d2] [.null] h Q :=
  B96_8n (B96_13 (S.T 0) (B107_0 (S.T 0) (B96_18 k1)))
theorem V96r {h : pm_H} {Q : Option Value → pm_H → Prop} {x1 : Int32} {q : Nat} {d2 : Option Value} (S : SK h) (t1 : zT h q = 3) (t3 : ((zI h q 2) ≤ (Int32.ofInt 8)) → zT h q = 3) (k4 : ((zI h q 2) ≤ (Int32.ofInt 8)) → WP 1 0 [some (.ref 17), some (.ref q), some (.ref 11), some (.ref 34), none, none, none, none, none] [] (yI h 0 10 (zI h q 2)) (fun v1 h1 => WP 96 60 [some (.ref 0), some (.int x1), some (.ref q)] (v1.toList ++ [.ref 0]) h1 Q)) (k5 : (¬ (zI h q 2) ≤ (Int32.ofInt 8)) → Q (some (.int (Int32.ofInt (-1)))) (yI h 0 0 (Int32.ofInt 7))) : WP 96 8 [some (.ref 0), some (.int x1), d2] [.ref q] h Q :=
  B96_8 (B96_19 t1 (fun c2 => B96_35 (t3 c2) (S.T 0) (S.R 0 5) (S.R 0 3) (S.R 0 9) (S.T 17) (k4 c2)) (fun c2 => B96_28 (S.T 0) (B107_0 (S.T 0) (B96_34 (k5 c2)))))
theorem V96s {h : pm_H} {Q : Option Value → pm_H → Prop} {x1 : Int32} {q : Nat} {x4 : Int32} (S : SK h) (k1 : Q (some (.int x4)) (yI h 0 0 (Int32.ofInt 0))) : WP 96 60 [some (.ref 0), some (.int x1), some (.ref q)] [.int x4, .ref 0] h Q :=
  B96_60 (S.T 0) (B106_0 (S.T 0) (B96_63 k1))
/-- ORDER -/
theorem p_order {h : pm_H} {x1 : Int32} (I : INV h) : PAIR 96 163 [.int x1] h := by
  obtain ⟨S, n1, i1, i2, i3, i4, i5, B, bo, ⟨b, b2, hb⟩, b3⟩ := id I
  have m := MB.of b3
  have hl := bo.2.1
  have m16 := m.2.1
  have S1 : ∀ v, SK (yI h 0 0 v) := fun v => ((Kp.rf.I0 0 _ rfl) : Kp false h _).SK S
  rcases i32c x1 with hx | ⟨c, hc, rfl⟩
  · refine V96 S b2 hb.2.1 (c16N S hx (V96n S ?_))
    refine V163  (S1 _) ?_ ?_ ?_ ?_ ?_ <;> simp (disch := omega) only [oi_l, oi_n, z_nI, nIA, nIM, nIS, nIlt, nIle, nIeq, nIC, vpI, Nat.add_sub_cancel, Nat.not_le, Nat.not_lt, Nat.not_lt_zero, Nat.le_refl, not_true_eq_false, not_false_eq_true, false_imp_iff, true_imp_iff, forall_const, implies_true, Nat.reduceEqDiff, Nat.reduceLeDiff, Nat.reduceLT, zI_yI, va_upA, Nat.reduceEqDiff, ↓reduceIte, ngLt hx]
    first | exact pfin I ((((Kp.rf.I0 0 _ rfl).I35 1 _ rfl).I35 0 _ rfl).I35 0 _ rfl) (by simp [zI_yI, va_upA]) | exact pfinT I ((((Kp.rf.I0 0 _ rfl).I35 1 _ rfl).I35 0 _ rfl).I35 0 _ rfl) (by simp [zI_yI, va_upA])
  by_cases hc2 : c < B.2.length
  · obtain ⟨u1, u2, u3, u4⟩ := bk_cl bo hc2
    obtain ⟨m1, m2, m3⟩ := m.2.2.2 c hc2
    have hc3 : ¬ B.2.length ≤ c := by omega
    refine V96 S b2 hb.2.1 (c16S S hb bo hc2 (fun q hq => ?_))
    obtain ⟨q1, q2, q3, q4, -⟩ := id hq
    by_cases hs2 : (clL B c).2.length ≤ 8
    · refine V96r  S ?_ ?_ ?_ ?_ <;> simp (disch := omega) only [oi_l, oi_n, z_nI, nIA, nIM, nIS, nIlt, nIle, nIeq, nIC, vpI, Nat.add_sub_cancel, Nat.not_le, Nat.not_lt, Nat.not_lt_zero, Nat.le_refl, not_true_eq_false, not_false_eq_true, false_imp_iff, true_imp_iff, forall_const, implies_true, Nat.reduceEqDiff, Nat.reduceLeDiff, Nat.reduceLT, hs2, q2, q4]
      have K0 : Kp true h (yI h 0 10 (nI (clL B c).2.length)) := (Kp.rf.I0 10 _ rfl)
      have D0 : sameD h (yI h 0 10 (nI (clL B c).2.length)) := K0.D
      refine c1 (n := (clL B c).2.length) (K0.SK S) bo hc2 (hq.keep D0) rfl hs2 (fun g sg e34 => V96s (sg.SK (K0.SK S)) ?_)
      have K1 : Kp true h g := K0.tr (Kp.of sg rfl)
      have K2 : Kp true h (yI g 0 0 (Int32.ofInt 0)) := (K1.I0 0 _ rfl)
      have a40 : zI g 40 c = nI (clL B c).2.length := by rw [K1.r 40]; exact m2
      refine V163  (K2.SK S) ?_ ?_ ?_ ?_ ?_ <;> simp (disch := omega) only [oi_l, oi_n, z_nI, nIA, nIM, nIS, nIlt, nIle, nIeq, nIC, vpI, Nat.add_sub_cancel, Nat.not_le, Nat.not_lt, Nat.not_lt_zero, Nat.le_refl, not_true_eq_false, not_false_eq_true, false_imp_iff, true_imp_iff, forall_const, implies_true, Nat.reduceEqDiff, Nat.reduceLeDiff, Nat.reduceLT, zI_yI, va_upA, Nat.reduceEqDiff, ↓reduceIte, K1.2.2.1 16 rfl, m16, a40, hc3, hs2] <;> (try omega)
      have K3 : Kp true h (yI (yI (yI g 0 0 (nI 0)) 35 1 (nI 0)) 35 0 (nI 0)) := ((K2.I35 1 _ rfl).I35 0 _ rfl)
      refine m163 (K3.SK S) bo (m.keep K3) hc2 rfl hs2 (fun g2 s2 e49 e62 => ?_)
      have K4 : Kp true h g2 := K3.tr (s2.K rfl)
      refine ⟨rfl, I.genO K4 ?_ ⟨(clL B c).2.length, u3, ?_, e49, fun j hj => ?_⟩ ?_, ⟨_, rfl⟩, K4.cn⟩
      · rw [s2.1.1 0 (by decide), s2.2 0 (by decide) (by decide) (by decide)]; simp [zI_yI, va_upA]
      · rw [s2.1.1 0 (by decide)]
        simp only [zI_yI, va_upA, Nat.reduceEqDiff, if_false, if_true]
        rw [sg.1 0 (by decide)]
        simp [zI_yI, va_upA]
      · rw [s2.1.1 34 (by decide), e62 j hj]
        simp only [zI_yI, Nat.reduceEqDiff, if_false]
        exact e34 j hj
      · rw [s2.1.1 16 (by decide)]
        simp only [zI_yI, Nat.reduceEqDiff, if_false]
        rw [sg.1 16 (by decide)]
        simp only [zI_yI, Nat.reduceEqDiff, if_false]
        exact i5.2
    · refine V96r  S ?_ ?_ ?_ ?_ <;> simp (disch := omega) only [oi_l, oi_n, z_nI, nIA, nIM, nIS, nIlt, nIle, nIeq, nIC, vpI, Nat.add_sub_cancel, Nat.not_le, Nat.not_lt, Nat.not_lt_zero, Nat.le_refl, not_true_eq_false, not_false_eq_true, false_imp_iff, true_imp_iff, forall_const, implies_true, Nat.reduceEqDiff, Nat.reduceLeDiff, Nat.reduceLT, hs2, q2, q4]
      refine V163  (S1 _) ?_ ?_ ?_ ?_ ?_ <;> simp (disch := omega) only [oi_l, oi_n, z_nI, nIA, nIM, nIS, nIlt, nIle, nIeq, nIC, vpI, Nat.add_sub_cancel, Nat.not_le, Nat.not_lt, Nat.not_lt_zero, Nat.le_refl, not_true_eq_false, not_false_eq_true, false_imp_iff, true_imp_iff, forall_const, implies_true, Nat.reduceEqDiff, Nat.reduceLeDiff, Nat.reduceLT, zI_yI, va_upA, Nat.reduceEqDiff, ↓reduceIte, m16, m2, hc3, hs2] <;> (try omega)
      first | exact pfin I ((((Kp.rf.I0 0 _ rfl).I35 1 _ rfl).I35 0 _ rfl).I35 0 _ rfl) (by simp [zI_yI, va_upA]) | exact pfinT I ((((Kp.rf.I0 0 _ rfl).I35 1 _ rfl).I35 0 _ rfl).I35 0 _ rfl) (by simp [zI_yI, va_upA])
  · refine V96 S b2 hb.2.1 (c16M hc S hb bo (by omega) (V96n S ?_))
    refine V163  (S1 _) ?_ ?_ ?_ ?_ ?_ <;> simp (disch := omega) only [oi_l, oi_n, z_nI, nIA, nIM, nIS, nIlt, nIle, nIeq, nIC, vpI, Nat.add_sub_cancel, Nat.not_le, Nat.not_lt, Nat.not_lt_zero, Nat.le_refl, not_true_eq_false, not_false_eq_true, false_imp_iff, true_imp_iff, forall_const, implies_true, Nat.reduceEqDiff, Nat.reduceLeDiff, Nat.reduceLT, zI_yI, va_upA, Nat.reduceEqDiff, ↓reduceIte, m16, show B.2.length ≤ c by omega]
    first | exact pfin I ((((Kp.rf.I0 0 _ rfl).I35 1 _ rfl).I35 0 _ rfl).I35 0 _ rfl) (by simp [zI_yI, va_upA]) | exact pfinT I ((((Kp.rf.I0 0 _ rfl).I35 1 _ rfl).I35 0 _ rfl).I35 0 _ rfl) (by simp [zI_yI, va_upA])

theorem V30 {h : pm_H} {Q : Option Value → pm_H → Prop} {w : Nat} {x1 : Int32} {b6 : Nat} {b9 : Nat} (S : SK h) (t1 : zT h w = 5) (k3 : (x1 < (zI h w 3)) → Q (some (.int (Int32.ofInt (-1)))) h) (t4 : (¬ x1 < (zI h w 3)) → zT h w = 5) (t5 : (¬ x1 < (zI h w 3)) → zT h w = 5) (e7 : (¬ x1 < (zI h w 3)) → zR h w 0 = some b6) (t8 : (¬ x1 < (zI h w 3)) → zT h b6 = 9) (e10 : (¬ x1 < (zI h w 3)) → zR h b6 1 = some b9) (g11 : (¬ x1 < (zI h w 3)) → 100 ≤ zT h b9 ∧ zT h b9 ≤ 105) (t13 : (¬ x1 < (zI h w 3)) → (x1 < ((zI h w 3) + (Int32.ofInt (zN h b9)))) → zT h w = 5) (t15 : (¬ x1 < (zI h w 3)) → (x1 < ((zI h w 3) + (Int32.ofInt (zN h b9)))) → ((zI h w 2) = 0) → zT h w = 5) (t16 : (¬ x1 < (zI h w 3)) → (x1 < ((zI h w 3) + (Int32.ofInt (zN h b9)))) → ((zI h w 2) = 0) → zT h b6 = 9) (t17 : (¬ x1 < (zI h w 3)) → (x1 < ((zI h w 3) + (Int32.ofInt (zN h b9)))) → ((zI h w 2) = 0) → zT h b9 = 101) (g18 : (¬ x1 < (zI h w 3)) → (x1 < ((zI h w 3) + (Int32.ofInt (zN h b9)))) → ((zI h w 2) = 0) → vp_in (x1 - (zI h w 3)) (zN h b9)) (k19 : (¬ x1 < (zI h w 3)) → (x1 < ((zI h w 3) + (Int32.ofInt (zN h b9)))) → ((zI h w 2) = 0) → Q (some (.int (zI h b9 ((x1 - (zI h w 3))).toNatClampNeg))) h) (t20 : (¬ x1 < (zI h w 3)) → (x1 < ((zI h w 3) + (Int32.ofInt (zN h b9)))) → (¬ (zI h w 2) = 0) → zT h w = 5) (t21 : (¬ x1 < (zI h w 3)) → (x1 < ((zI h w 3) + (Int32.ofInt (zN h b9)))) → (¬ (zI h w 2) = 0) → zT h b6 = 9) (t22 : (¬ x1 < (zI h w 3)) → (x1 < ((zI h w 3) + (Int32.ofInt (zN h b9)))) → (¬ (zI h w 2) = 0) → zT h w = 5) (t23 : (¬ x1 < (zI h w 3)) → (x1 < ((zI h w 3) + (Int32.ofInt (zN h b9)))) → (¬ (zI h w 2) = 0) → zT h b6 = 9) (g24 : (¬ x1 < (zI h w 3)) → (x1 < ((zI h w 3) + (Int32.ofInt (zN h b9)))) → (¬ (zI h w 2) = 0) → 100 ≤ zT h b9 ∧ zT h b9 ≤ 105) (t25 : (¬ x1 < (zI h w 3)) → (x1 < ((zI h w 3) + (Int32.ofInt (zN h b9)))) → (¬ (zI h w 2) = 0) → zT h b9 = 101) (g26 : (¬ x1 < (zI h w 3)) → (x1 < ((zI h w 3) + (Int32.ofInt (zN h b9)))) → (¬ (zI h w 2) = 0) → vp_in ((((zI h w 3) + (Int32.ofInt (zN h b9))) - (Int32.ofInt 1)) - x1) (zN h b9)) (k27 : (¬ x1 < (zI h w 3)) → (x1 < ((zI h w 3) + (Int32.ofInt (zN h b9)))) → (¬ (zI h w 2) = 0) → Q (some (.int (zI h b9 (((((zI h w 3) + (Int32.ofInt (zN h b9))) - (Int32.ofInt 1)) - x1)).toNatClampNeg))) h) (k28 : (¬ x1 < (zI h w 3)) → (¬ x1 < ((zI h w 3) + (Int32.ofInt (zN h b9)))) → Q (some (.int (Int32.ofInt (-1)))) h) : WP 30 0 [some (.ref w), some (.int x1)] [] h Q :=
  B30_0 t1 (fun c2 => B30_16 (k3 c2)) (fun c2 => B30_8 (t4 c2) (B29_0 (t5 c2) (e7 c2) (t8 c2) (e10 c2) (g11 c2) (B30_13 (fun c12 => B30_18 (t13 c2 c12) (fun c14 => B30_44 (t15 c2 c12 c14) (e7 c2) (t16 c2 c12 c14) (e10 c2) ⟨(t17 c2 c12 c14), (g18 c2 c12 c14)⟩ (B30_58 (k19 c2 c12 c14))) (fun c14 => B30_25 (t20 c2 c12 c14) (e7 c2) (t21 c2 c12 c14) (e10 c2) (B29_0 (t22 c2 c12 c14) (e7 c2) (t23 c2 c12 c14) (e10 c2) (g24 c2 c12 c14) (B30_36 ⟨(t25 c2 c12 c14), (g26 c2 c12 c14)⟩ (B30_58 (k27 c2 c12 c14)))))) (fun c12 => B30_16 (k28 c2 c12)))))
theorem V93 {h : pm_H} {Q : Option Value → pm_H → Prop} {x1 : Int32} {x2 : Int32} {x3 : Int32} {d4 : Option Value} {d5 : Option Value} {b1 : Nat} (S : SK h) (e2 : zR h 0 2 = some b1) (t3 : zT h b1 = 2) (k4 : WP 16 0 [some (.ref b1), some (.int x1)] [] h (fun v1 h1 => WP 93 8 [some (.ref 0), some (.int x1), some (.int x2), some (.int x3), d4, d5] (v1.toList ++ []) h1 Q)) : WP 93 0 [some (.ref 0), some (.int x1), some (.int x2), some (.int x3), d4, d5] [] h Q :=
  B93_0 (S.T 0) e2 t3 k4
theorem V93n {h : pm_H} {Q : Option Value → pm_H → Prop} {x1 : Int32} {x2 : Int32} {x3 : Int32} {d4 : Option Value} {d5 : Option Value} (S : SK h) (k1 : Q (some (.int (Int32.ofInt (-1)))) (yI h 0 0 (Int32.ofInt 1))) : WP 93 8 [some (.ref 0), some (.int x1), some (.int x2), some (.int x3), d4, d5] [.null] h Q :=
  B93_8n (B93_15 (S.T 0) (B107_0 (S.T 0) (B93_20 k1)))
theorem V93r {h : pm_H} {Q : Option Value → pm_H → Prop} {x1 : Int32} {x2 : Int32} {x3 : Int32} {q : Nat} {d4 : Option Value} {d5 : Option Value} (S : SK h) (t1 : zT h q = 3) (k2 : WP 21 0 [some (.ref q), some (.int x2)] [] h (fun v1 h1 => WP 93 27 [some (.ref 0), some (.int x1), some (.int x2), some (.int x3), some (.ref q), d5] (v1.toList ++ []) h1 Q)) : WP 93 8 [some (.ref 0), some (.int x1), some (.int x2), some (.int x3), d4, d5] [.ref q] h Q :=
  B93_8 (B93_21 t1 k2)
theorem V93pn {h : pm_H} {Q : Option Value → pm_H → Prop} {x1 : Int32} {x2 : Int32} {x3 : Int32} {q : Nat} {d5 : Option Value} (S : SK h) (k1 : Q (some (.int (Int32.ofInt (-1)))) (yI h 0 0 (Int32.ofInt 1))) : WP 93 27 [some (.ref 0), some (.int x1), some (.int x2), some (.int x3), some (.ref q), d5] [.null] h Q :=
  B93_27n (B93_34 (S.T 0) (B107_0 (S.T 0) (B93_39 k1)))
theorem V93p {h : pm_H} {Q : Option Value → pm_H → Prop} {x1 : Int32} {x2 : Int32} {x3 : Int32} {q : Nat} {w : Nat} {d5 : Option Value} (S : SK h) (k2 : (x3 < 0) → Q (some (.int (Int32.ofInt (-1)))) (yI h 0 0 (Int32.ofInt 2))) (t4 : (¬ x3 < 0) → (x3 < (Int32.ofInt 500)) → zT h w = 5) (k5 : (¬ x3 < 0) → (x3 < (Int32.ofInt 500)) → WP 30 0 [some (.ref w), some (.int x3)] [] h (fun v1 h1 => WP 93 64 [some (.ref 0), some (.int x1), some (.int x2), some (.int x3), some (.ref q), some (.ref w)] (v1.toList ++ [.ref 0]) h1 Q)) (k6 : (¬ x3 < 0) → (¬ x3 < (Int32.ofInt 500)) → Q (some (.int (Int32.ofInt (-1)))) (yI h 0 0 (Int32.ofInt 2))) : WP 93 27 [some (.ref 0), some (.int x1), some (.int x2), some (.int x3), some (.ref q), d5] [.ref w] h Q :=
  B93_27 (B93_40 (fun c1 => B93_51 (S.T 0) (B107_0 (S.T 0) (B93_56 (k2 c1)))) (fun c1 => B93_44 (fun c3 => B93_57 (t4 c1 c3) (k5 c1 c3)) (fun c3 => B93_51 (S.T 0) (B107_0 (S.T 0) (B93_56 (k6 c1 c3))))))
theorem V93s {h : pm_H} {Q : Option Value → pm_H → Prop} {x1 : Int32} {x2 : Int32} {x3 : Int32} {q : Nat} {w : Nat} {x5 : Int32} (S : SK h) (k1 : Q (some (.int x5)) (yI h 0 0 (Int32.ofInt 0))) : WP 93 64 [some (.ref 0), some (.int x1), some (.int x2), some (.int x3), some (.ref q), some (.ref w)] [.int x5, .ref 0] h Q :=
  B93_64 (S.T 0) (B106_0 (S.T 0) (B93_67 k1))
theorem V154 {h : pm_H} {Q : Option Value → pm_H → Prop} {x1 : Int32} {x2 : Int32} (S : SK h) (g1 : vp_in x1 72) (g2 : vp_in x1 72) (g3 : vp_in x1 72) (k4 : WP 153 0 [some (.ref 35), some (.int (zI h 41 (x1).toNatClampNeg)), some (.int (zI h 42 (x1).toNatClampNeg)), some (.int (zI h 43 (x1).toNatClampNeg)), some (.int x2), none] [] h (fun v1 h1 => WP 154 23 [some (.ref 35), some (.int x1), some (.int x2)] (v1.toList ++ []) h1 Q)) : WP 154 0 [some (.ref 35), some (.int x1), some (.int x2)] [] h Q :=
  B154_0 (S.T 35) (S.R 35 23) ⟨(S.T 41), (S.bd 41 g1)⟩ (S.R 35 24) ⟨(S.T 42), (S.bd 42 g2)⟩ (S.R 35 25) ⟨(S.T 43), (S.bd 43 g3)⟩ k4
theorem V154r {h : pm_H} {Q : Option Value → pm_H → Prop} {x1 : Int32} {x2 : Int32} {x4 : Int32} (S : SK h) (k1 : Q (some (.int x4)) h) : WP 154 23 [some (.ref 35), some (.int x1), some (.int x2)] [.int x4] h Q :=
  B154_23 k1
theorem V159 {h : pm_H} {Q : Option Value → pm_H → Prop} {x1 : Int32} {x2 : Int32} {x3 : Int32} (S : SK h) (k3 : (x1 < 0) → Q (some (.int (Int32.ofInt (-1)))) (yI (yI (yI h 35 1 (Int32.ofInt 0)) 35 0 (Int32.ofInt 0)) 35 0 (Int32.ofInt 1))) (k6 : (¬ x1 < 0) → ((zI h 35 16) ≤ x1) → Q (some (.int (Int32.ofInt (-1)))) (yI (yI (yI h 35 1 (Int32.ofInt 0)) 35 0 (Int32.ofInt 0)) 35 0 (Int32.ofInt 1))) (k9 : (¬ x1 < 0) → (¬ (zI h 35 16) ≤ x1) → (x2 < 0) → Q (some (.int (Int32.ofInt (-1)))) (yI (yI (yI h 35 1 (Int32.ofInt 0)) 35 0 (Int32.ofInt 0)) 35 0 (Int32.ofInt 1))) (g10 : (¬ x1 < 0) → (¬ (zI h 35 16) ≤ x1) → (¬ x2 < 0) → vp_in x1 6) (k13 : (¬ x1 < 0) → (¬ (zI h 35 16) ≤ x1) → (¬ x2 < 0) → (x2 < (zI h 40 (x1).toNatClampNeg)) → (x3 < 0) → Q (some (.int (Int32.ofInt (-1)))) (yI (yI (yI h 35 1 (Int32.ofInt 0)) 35 0 (Int32.ofInt 0)) 35 0 (Int32.ofInt 2))) (k15 : (¬ x1 < 0) → (¬ (zI h 35 16) ≤ x1) → (¬ x2 < 0) → (x2 < (zI h 40 (x1).toNatClampNeg)) → (¬ x3 < 0) → (x3 < (Int32.ofInt 500)) → WP 154 0 [some (.ref 35), some (.int (((Int32.ofInt 12) * x1) + x2)), some (.int x3)] [] (yI (yI h 35 1 (Int32.ofInt 0)) 35 0 (Int32.ofInt 0)) (fun v1 h1 => WP 159 68 [some (.ref 35), some (.int x1), some (.int x2), some (.int x3)] (v1.toList ++ []) h1 Q)) (k16 : (¬ x1 < 0) → (¬ (zI h 35 16) ≤ x1) → (¬ x2 < 0) → (x2 < (zI h 40 (x1).toNatClampNeg)) → (¬ x3 < 0) → (¬ x3 < (Int32.ofInt 500)) → Q (some (.int (Int32.ofInt (-1)))) (yI (yI (yI h 35 1 (Int32.ofInt 0)) 35 0 (Int32.ofInt 0)) 35 0 (Int32.ofInt 2))) (k17 : (¬ x1 < 0) → (¬ (zI h 35 16) ≤ x1) → (¬ x2 < 0) → (¬ x2 < (zI h 40 (x1).toNatClampNeg)) → Q (some (.int (Int32.ofInt (-1)))) (yI (yI (yI h 35 1 (Int32.ofInt 0)) 35 0 (Int32.ofInt 0)) 35 0 (Int32.ofInt 1))) : WP 159 0 [some (.ref 35), some (.int x1), some (.int x2), some (.int x3)] [] h Q :=
  B159_0 (S.T 35) (B152_0 (fun c1 => B152_16 (B152_17 oi0 (B159_15 (fun _ => B159_32 (S.T 35) (B123_0 (S.T 35) (B159_37 (k3 c1)))) (fun q => absurd (by decide) q)))) (fun c1 => B152_4 (S.T 35) (fun c4 => B152_16 (B152_17 oi0 (B159_15 (fun _ => B159_32 (S.T 35) (B123_0 (S.T 35) (B159_37 (k6 c1 c4)))) (fun q => absurd (by decide) q)))) (fun c4 => B152_12 (B152_17 oi1 (B159_15 (fun q => absurd q (by decide)) (fun _ => B159_18 (fun c8 => B159_32 (S.T 35) (B123_0 (S.T 35) (B159_37 (k9 c1 c4 c8)))) (fun c8 => B159_22 (S.T 35) (S.R 35 22) ⟨(S.T 40), (S.bd 40 (g10 c1 c4 c8))⟩ (fun c11 => B159_38 (fun c12 => B159_49 (S.T 35) (B123_0 (S.T 35) (B159_54 (B159_68 (k13 c1 c4 c8 c11 c12))))) (fun c12 => B159_42 (fun c14 => B159_57 (S.T 35) (k15 c1 c4 c8 c11 c12 c14)) (fun c14 => B159_49 (S.T 35) (B123_0 (S.T 35) (B159_54 (B159_68 (k16 c1 c4 c8 c11 c12 c14))))))) (fun c11 => B159_32 (S.T 35) (B123_0 (S.T 35) (B159_37 (k17 c1 c4 c8 c11)))))))))))
theorem V159r {h : pm_H} {Q : Option Value → pm_H → Prop} {x1 : Int32} {x2 : Int32} {x3 : Int32} {x4 : Int32} (S : SK h) (k1 : Q (some (.int x4)) h) : WP 159 68 [some (.ref 35), some (.int x1), some (.int x2), some (.int x3)] [.int x4] h Q :=
  B159_68 k1
/-- Part.colourAt -/
theorem c30 {h : pm_H} {Q : Option Value → pm_H → Prop} {w ht : Nat} {B : Bk} {p : BkP} (S : SK h) (bo : bk_ok B) (hw : atW h w B p) (hp : p.1 < B.1.length ∧ p.2.1 ≤ 50) (h2 : ht ≤ 500) (k0 : Q (some (.int (col (stL B p.1).2 p.2.2 p.2.1 ht))) h) : WP 30 0 [some (.ref w), some (.int (nI ht))] [] h Q := by
  obtain ⟨a1, a2, ⟨r, a3, ⟨q1, q2, q3, pa, ea, q4, q5, q6, q7, q8, -⟩⟩, a5, a6, a7⟩ := hw
  obtain ⟨p1, sh, t⟩ := p
  simp only at a5 a6 a7 q3 q7 q8 k0 hp
  have ok := (bk_st bo hp.1).1
  have l1 := ok.2.1
  have hp2 := hp.2
  by_cases c1 : sh ≤ ht
  · by_cases c2 : ht < sh + (stL B p1).2.length
    · unfold col at k0
      rw [if_pos ⟨c1, c2⟩] at k0
      cases t with
      | false =>
        have e := q8 (ht - sh) (by omega)
        refine V30 (b6 := r) (b9 := pa) S ?_ ?_ ?_ ?_ ?_ ?_ ?_ ?_ ?_ ?_ ?_ ?_ ?_ ?_ ?_ ?_ ?_ ?_ ?_ ?_ ?_ ?_ ?_ <;> simp (disch := omega) only [oi_l, oi_n, z_nI, nIA, nIM, nIS, nIlt, nIle, nIeq, nIC, vpI, Nat.add_sub_cancel, Nat.not_le, Nat.not_lt, Nat.not_lt_zero, Nat.le_refl, not_true_eq_false, not_false_eq_true, false_imp_iff, true_imp_iff, forall_const, a2, a3, a6, a7, q2, q4, q6, q7, e, bI_f, c2, show ¬ ht < sh by omega, Nat.reduceLeDiff, and_self, implies_true] <;> (try omega)
        exact k0
      | true =>
        have e := q8 ((stL B p1).2.length - 1 - (ht - sh)) (by omega)
        rw [show (stL B p1).2.length - 1 - (ht - sh) = sh + (stL B p1).2.length - 1 - ht by omega] at e
        unfold pk ix at k0
        rw [if_pos rfl, show (stL B p1).2.length - 1 - (ht - sh) = sh + (stL B p1).2.length - 1 - ht by omega] at k0
        refine V30 (b6 := r) (b9 := pa) S ?_ ?_ ?_ ?_ ?_ ?_ ?_ ?_ ?_ ?_ ?_ ?_ ?_ ?_ ?_ ?_ ?_ ?_ ?_ ?_ ?_ ?_ ?_ <;> simp (disch := omega) only [oi_l, oi_n, z_nI, nIA, nIM, nIS, nIlt, nIle, nIeq, nIC, vpI, Nat.add_sub_cancel, Nat.not_le, Nat.not_lt, Nat.not_lt_zero, Nat.le_refl, not_true_eq_false, not_false_eq_true, false_imp_iff, true_imp_iff, forall_const, a2, a3, a6, a7, q2, q4, q6, q7, e, bI_t, c2, show ¬ ht < sh by omega, Nat.succ_ne_zero, Nat.reduceLeDiff, and_self, implies_true] <;> first | omega | exact k0
    · unfold col at k0
      rw [if_neg (fun q => c2 q.2)] at k0
      refine V30 (b6 := r) (b9 := pa) S ?_ ?_ ?_ ?_ ?_ ?_ ?_ ?_ ?_ ?_ ?_ ?_ ?_ ?_ ?_ ?_ ?_ ?_ ?_ ?_ ?_ ?_ ?_ <;> simp (disch := omega) only [oi_l, oi_n, z_nI, nIA, nIM, nIS, nIlt, nIle, nIeq, nIC, vpI, Nat.add_sub_cancel, Nat.not_le, Nat.not_lt, Nat.not_lt_zero, Nat.le_refl, not_true_eq_false, not_false_eq_true, false_imp_iff, true_imp_iff, forall_const, a2, a3, a6, a7, q2, q4, q6, q7, c2, show ¬ ht < sh by omega, Nat.reduceLeDiff, and_self, implies_true]
      exact k0
  · unfold col at k0
    rw [if_neg (fun q => c1 q.1)] at k0
    refine V30 (b6 := r) (b9 := pa) S ?_ ?_ ?_ ?_ ?_ ?_ ?_ ?_ ?_ ?_ ?_ ?_ ?_ ?_ ?_ ?_ ?_ ?_ ?_ ?_ ?_ ?_ ?_ <;> simp (disch := omega) only [oi_l, oi_n, z_nI, nIA, nIM, nIS, nIlt, nIle, nIeq, nIC, vpI, Nat.add_sub_cancel, Nat.not_le, Nat.not_lt, Nat.not_lt_zero, Nat.le_refl, not_true_eq_false, not_false_eq_true, false_imp_iff, true_imp_iff, forall_const, a2, a7, show ht < sh by omega]
    exact k0
/-- AT -/
theorem p_at {h : pm_H} {x1 x2 x3 : Int32} (I : INV h) : PAIR 93 159 [.int x1, .int x2, .int x3] h := by
  obtain ⟨S, n1, i1, i2, i3, i4, i5, B, bo, ⟨b, b2, hb⟩, b3⟩ := id I
  have m := MB.of b3
  have hl := bo.2.1
  have hl1 := bo.1
  have m16 := m.2.1
  have S1 : ∀ v, SK (yI h 0 0 v) := fun v => ((Kp.rf.I0 0 _ rfl) : Kp false h _).SK S
  rcases i32c x1 with hx | ⟨c, hc, rfl⟩
  · refine V93 S b2 hb.2.1 (c16N S hx (V93n S ?_))
    refine V159  (S1 _) ?_ ?_ ?_ ?_ ?_ ?_ ?_ ?_ <;> simp (disch := omega) only [oi_l, oi_n, z_nI, nIA, nIM, nIS, nIlt, nIle, nIeq, nIC, vpI, Nat.add_sub_cancel, Nat.not_le, Nat.not_lt, Nat.not_lt_zero, Nat.le_refl, not_true_eq_false, not_false_eq_true, false_imp_iff, true_imp_iff, forall_const, zI_yI, va_upA, Nat.reduceEqDiff, ↓reduceIte, ngLt hx]
    first | exact pfin I ((((Kp.rf.I0 0 _ rfl).I35 1 _ rfl).I35 0 _ rfl).I35 0 _ rfl) (by simp [zI_yI, va_upA]) | exact pfinT I ((((Kp.rf.I0 0 _ rfl).I35 1 _ rfl).I35 0 _ rfl).I35 0 _ rfl) (by simp [zI_yI, va_upA])
  by_cases hc2 : c < B.2.length
  · obtain ⟨u1, u2, u3, u4⟩ := bk_cl bo hc2
    obtain ⟨m1, m2, m3⟩ := m.2.2.2 c hc2
    have hc3 : ¬ B.2.length ≤ c := by omega
    refine V93 S b2 hb.2.1 (c16S S hb bo hc2 (fun q hq => V93r S hq.2.1 ?_))
    rcases i32c x2 with hy | ⟨k, hk, rfl⟩
    · refine c21N S hy (V93pn S ?_)
      refine V159  (S1 _) ?_ ?_ ?_ ?_ ?_ ?_ ?_ ?_ <;> simp (disch := omega) only [oi_l, oi_n, z_nI, nIA, nIM, nIS, nIlt, nIle, nIeq, nIC, vpI, Nat.add_sub_cancel, Nat.not_le, Nat.not_lt, Nat.not_lt_zero, Nat.le_refl, not_true_eq_false, not_false_eq_true, false_imp_iff, true_imp_iff, forall_const, zI_yI, va_upA, Nat.reduceEqDiff, ↓reduceIte, m16, hc3, ngLt hy]
      first | exact pfin I ((((Kp.rf.I0 0 _ rfl).I35 1 _ rfl).I35 0 _ rfl).I35 0 _ rfl) (by simp [zI_yI, va_upA]) | exact pfinT I ((((Kp.rf.I0 0 _ rfl).I35 1 _ rfl).I35 0 _ rfl).I35 0 _ rfl) (by simp [zI_yI, va_upA])
    by_cases hk2 : k < (clL B c).2.length
    · refine c21S S hq u3 hk2 (fun w hw => ?_)
      obtain ⟨o1, o2, o3⟩ := m3 k hk2
      have hp := u4 k hk2
      rcases i32c x3 with hz | ⟨ht, hht, rfl⟩
      · refine V93p  S ?_ ?_ ?_ ?_ <;> simp (disch := omega) only [oi_l, oi_n, z_nI, nIA, nIM, nIS, nIlt, nIle, nIeq, nIC, vpI, Nat.add_sub_cancel, Nat.not_le, Nat.not_lt, Nat.not_lt_zero, Nat.le_refl, not_true_eq_false, not_false_eq_true, false_imp_iff, true_imp_iff, forall_const, ngLt hz]
        refine V159  (S1 _) ?_ ?_ ?_ ?_ ?_ ?_ ?_ ?_ <;> simp (disch := omega) only [oi_l, oi_n, z_nI, nIA, nIM, nIS, nIlt, nIle, nIeq, nIC, vpI, Nat.add_sub_cancel, Nat.not_le, Nat.not_lt, Nat.not_lt_zero, Nat.le_refl, not_true_eq_false, not_false_eq_true, false_imp_iff, true_imp_iff, forall_const, zI_yI, va_upA, Nat.reduceEqDiff, ↓reduceIte, m16, m2, hc3, hk2, ngLt hz] <;> (try omega)
        first | exact pfin I ((((Kp.rf.I0 0 _ rfl).I35 1 _ rfl).I35 0 _ rfl).I35 0 _ rfl) (by simp [zI_yI, va_upA]) | exact pfinT I ((((Kp.rf.I0 0 _ rfl).I35 1 _ rfl).I35 0 _ rfl).I35 0 _ rfl) (by simp [zI_yI, va_upA])
      by_cases h5 : ht < 500
      · refine V93p  S ?_ ?_ ?_ ?_ <;> simp (disch := omega) only [oi_l, oi_n, z_nI, nIA, nIM, nIS, nIlt, nIle, nIeq, nIC, vpI, Nat.add_sub_cancel, Nat.not_le, Nat.not_lt, Nat.not_lt_zero, Nat.le_refl, not_true_eq_false, not_false_eq_true, false_imp_iff, true_imp_iff, forall_const, h5, hw.2.1]
        refine c30 S bo hw hp (by omega) (V93s S ?_)
        refine V159  (S1 _) ?_ ?_ ?_ ?_ ?_ ?_ ?_ ?_ <;> simp (disch := omega) only [oi_l, oi_n, z_nI, nIA, nIM, nIS, nIlt, nIle, nIeq, nIC, vpI, Nat.add_sub_cancel, Nat.not_le, Nat.not_lt, Nat.not_lt_zero, Nat.le_refl, not_true_eq_false, not_false_eq_true, false_imp_iff, true_imp_iff, forall_const, zI_yI, va_upA, Nat.reduceEqDiff, ↓reduceIte, m16, m2, hc3, hk2, h5] <;> (try omega)
        have K : Kp false h (yI (yI (yI h 0 0 (nI 0)) 35 1 (nI 0)) 35 0 (nI 0)) := (((Kp.rf.I0 0 _ rfl).I35 1 _ rfl).I35 0 _ rfl)
        obtain ⟨-, v1, v2⟩ := m.2.2.1 _ hp.1
        refine V154  (K.SK S) ?_ ?_ ?_ ?_ <;> simp (disch := omega) only [oi_l, oi_n, z_nI, nIA, nIM, nIS, nIlt, nIle, nIeq, nIC, vpI, Nat.add_sub_cancel, Nat.not_le, Nat.not_lt, Nat.not_lt_zero, Nat.le_refl, not_true_eq_false, not_false_eq_true, false_imp_iff, true_imp_iff, forall_const, K.r 41, K.r 42, K.r 43, o1, o2, o3] <;> (try omega)
        refine c153 (l := (stL B (ptL B c k).1).2) (K.SK S) (by omega) (by rw [K.r 38]; exact v1) (by rw [K.r 45]; exact v2) (bk_st bo hp.1).1 hp.2 (by omega) (V154r (K.SK S) (V159r (K.SK S) ?_))
        exact pfin I K (by simp [zI_yI, va_upA])
      · refine V93p  S ?_ ?_ ?_ ?_ <;> simp (disch := omega) only [oi_l, oi_n, z_nI, nIA, nIM, nIS, nIlt, nIle, nIeq, nIC, vpI, Nat.add_sub_cancel, Nat.not_le, Nat.not_lt, Nat.not_lt_zero, Nat.le_refl, not_true_eq_false, not_false_eq_true, false_imp_iff, true_imp_iff, forall_const, h5, hw.2.1]
        refine V159  (S1 _) ?_ ?_ ?_ ?_ ?_ ?_ ?_ ?_ <;> simp (disch := omega) only [oi_l, oi_n, z_nI, nIA, nIM, nIS, nIlt, nIle, nIeq, nIC, vpI, Nat.add_sub_cancel, Nat.not_le, Nat.not_lt, Nat.not_lt_zero, Nat.le_refl, not_true_eq_false, not_false_eq_true, false_imp_iff, true_imp_iff, forall_const, zI_yI, va_upA, Nat.reduceEqDiff, ↓reduceIte, m16, m2, hc3, hk2, h5] <;> (try omega)
        first | exact pfin I ((((Kp.rf.I0 0 _ rfl).I35 1 _ rfl).I35 0 _ rfl).I35 0 _ rfl) (by simp [zI_yI, va_upA]) | exact pfinT I ((((Kp.rf.I0 0 _ rfl).I35 1 _ rfl).I35 0 _ rfl).I35 0 _ rfl) (by simp [zI_yI, va_upA])
    · refine c21M hk S hq u3 (by omega) (V93pn S ?_)
      refine V159  (S1 _) ?_ ?_ ?_ ?_ ?_ ?_ ?_ ?_ <;> simp (disch := omega) only [oi_l, oi_n, z_nI, nIA, nIM, nIS, nIlt, nIle, nIeq, nIC, vpI, Nat.add_sub_cancel, Nat.not_le, Nat.not_lt, Nat.not_lt_zero, Nat.le_refl, not_true_eq_false, not_false_eq_true, false_imp_iff, true_imp_iff, forall_const, zI_yI, va_upA, Nat.reduceEqDiff, ↓reduceIte, m16, m2, hc3, hk2] <;> (try omega)
      first | exact pfin I ((((Kp.rf.I0 0 _ rfl).I35 1 _ rfl).I35 0 _ rfl).I35 0 _ rfl) (by simp [zI_yI, va_upA]) | exact pfinT I ((((Kp.rf.I0 0 _ rfl).I35 1 _ rfl).I35 0 _ rfl).I35 0 _ rfl) (by simp [zI_yI, va_upA])
  · refine V93 S b2 hb.2.1 (c16M hc S hb bo (by omega) (V93n S ?_))
    refine V159  (S1 _) ?_ ?_ ?_ ?_ ?_ ?_ ?_ ?_ <;> simp (disch := omega) only [oi_l, oi_n, z_nI, nIA, nIM, nIS, nIlt, nIle, nIeq, nIC, vpI, Nat.add_sub_cancel, Nat.not_le, Nat.not_lt, Nat.not_lt_zero, Nat.le_refl, not_true_eq_false, not_false_eq_true, false_imp_iff, true_imp_iff, forall_const, zI_yI, va_upA, Nat.reduceEqDiff, ↓reduceIte, m16, show B.2.length ≤ c by omega]
    first | exact pfin I ((((Kp.rf.I0 0 _ rfl).I35 1 _ rfl).I35 0 _ rfl).I35 0 _ rfl) (by simp [zI_yI, va_upA]) | exact pfinT I ((((Kp.rf.I0 0 _ rfl).I35 1 _ rfl).I35 0 _ rfl).I35 0 _ rfl) (by simp [zI_yI, va_upA])

theorem ngE {x : Int32} (hx : x < 0) {n : Nat} (hn : n < 2147483648) : (x = nI n) = False := by
  rw [eq_iff_iff, iff_false]
  intro e
  rw [lt_z, e, nI_i hn] at hx
  omega
theorem ngL {x : Int32} (hx : x < 0) {n : Nat} (hn : n < 2147483648) : (nI n ≤ x) = False := by
  rw [eq_iff_iff, iff_false, Int32.le_iff_toInt_le, nI_i hn]
  rw [lt_z] at hx
  omega
theorem ngLt {x : Int32} (hx : x < 0) {n : Nat} (hn : n < 2147483648) : (x < nI n) = True := by
  rw [eq_iff_iff, iff_true, Int32.lt_iff_toInt_lt, nI_i hn]
  rw [lt_z] at hx
  omega
theorem pfin {h g : pm_H} {v : Int32} (I : INV h) (k : Kp false h g) (st : zI g 0 0 = zI g 35 0) : some (Value.int v) = some (Value.int v) ∧ INV g ∧ (∃ x, some (Value.int v) = some (Value.int x)) ∧ zn g ≤ zn h + 200 ∧ zk g ≤ zk h + 14000 := ⟨rfl, I.gen k st, ⟨_, rfl⟩, k.cn⟩
theorem oi0' : Int32.ofInt 0 = 0 := rfl
theorem V89 {h : pm_H} {Q : Option Value → pm_H → Prop} {x1 : Int32} {x2 : Int32} {d3 : Option Value} {b1 : Nat} (S : SK h) (e2 : zR h 0 2 = some b1) (t3 : zT h b1 = 2) (k4 : WP 15 0 [some (.ref b1), some (.int x1)] [] h (fun v1 h1 => WP 89 8 [some (.ref 0), some (.int x1), some (.int x2), d3] (v1.toList ++ []) h1 Q)) : WP 89 0 [some (.ref 0), some (.int x1), some (.int x2), d3] [] h Q :=
  B89_0 (S.T 0) e2 t3 k4
theorem V89n {h : pm_H} {Q : Option Value → pm_H → Prop} {x1 : Int32} {x2 : Int32} {d3 : Option Value} (S : SK h) (k1 : Q (some (.int (Int32.ofInt (-1)))) (yI h 0 0 (Int32.ofInt 1))) : WP 89 8 [some (.ref 0), some (.int x1), some (.int x2), d3] [.null] h Q :=
  B89_8n (B89_13 (S.T 0) (B107_0 (S.T 0) (B89_18 k1)))
theorem V89r {h : pm_H} {Q : Option Value → pm_H → Prop} {x1 : Int32} {x2 : Int32} {r9 : Nat} {d3 : Option Value} {b5 : Nat} {b10 : Nat} (S : SK h) (t2 : (x2 = (Int32.ofInt 0)) → zT h r9 = 9) (k3 : (x2 = (Int32.ofInt 0)) → Q (some (.int (zI h r9 0))) (yI h 0 0 (Int32.ofInt 0))) (t4 : (¬ x2 = (Int32.ofInt 0)) → (x2 = (Int32.ofInt 1)) → zT h r9 = 9) (e6 : (¬ x2 = (Int32.ofInt 0)) → (x2 = (Int32.ofInt 1)) → zR h r9 1 = some b5) (g7 : (¬ x2 = (Int32.ofInt 0)) → (x2 = (Int32.ofInt 1)) → 100 ≤ zT h b5 ∧ zT h b5 ≤ 105) (k8 : (¬ x2 = (Int32.ofInt 0)) → (x2 = (Int32.ofInt 1)) → Q (some (.int (Int32.ofInt (zN h b5)))) (yI h 0 0 (Int32.ofInt 0))) (t9 : (¬ x2 = (Int32.ofInt 0)) → (¬ x2 = (Int32.ofInt 1)) → (x2 = (Int32.ofInt 2)) → zT h r9 = 9) (e11 : (¬ x2 = (Int32.ofInt 0)) → (¬ x2 = (Int32.ofInt 1)) → (x2 = (Int32.ofInt 2)) → zR h r9 2 = some b10) (g12 : (¬ x2 = (Int32.ofInt 0)) → (¬ x2 = (Int32.ofInt 1)) → (x2 = (Int32.ofInt 2)) → 100 ≤ zT h b10 ∧ zT h b10 ≤ 105) (k13 : (¬ x2 = (Int32.ofInt 0)) → (¬ x2 = (Int32.ofInt 1)) → (x2 = (Int32.ofInt 2)) → Q (some (.int (Int32.ofInt (zN h b10)))) (yI h 0 0 (Int32.ofInt 0))) (k14 : (¬ x2 = (Int32.ofInt 0)) → (¬ x2 = (Int32.ofInt 1)) → (¬ x2 = (Int32.ofInt 2)) → Q (some (.int (Int32.ofInt (-1)))) (yI h 0 0 (Int32.ofInt 2))) : WP 89 8 [some (.ref 0), some (.int x1), some (.int x2), d3] [.ref r9] h Q :=
  B89_8 (B89_19 ((if c1_0 : x2 = (Int32.ofInt 0) then WP.pcs (by rw [c1_0]; rfl) (B89_48 (t2 c1_0) (S.T 0) (B106_0 (S.T 0) (B89_56 (k3 c1_0)))) else (if c1_1 : x2 = (Int32.ofInt 1) then WP.pcs (by rw [c1_1]; rfl) (B89_57 (t4 c1_0 c1_1) (e6 c1_0 c1_1) (g7 c1_0 c1_1) (S.T 0) (B106_0 (S.T 0) (B89_66 (k8 c1_0 c1_1)))) else (if c1_2 : x2 = (Int32.ofInt 2) then WP.pcs (by rw [c1_2]; rfl) (B89_67 (t9 c1_0 c1_1 c1_2) (e11 c1_0 c1_1 c1_2) (g12 c1_0 c1_1 c1_2) (S.T 0) (B106_0 (S.T 0) (B89_76 (k13 c1_0 c1_1 c1_2)))) else (WP.pcs (by simp [pm_tsw, pm_lsw, sw_ne c1_0, sw_ne c1_1, sw_ne c1_2]) (B89_77 (S.T 0) (B107_0 (S.T 0) (B89_82 (k14 c1_0 c1_1 c1_2))))))))))
theorem V149 {h : pm_H} {Q : Option Value → pm_H → Prop} {x1 : Int32} {x2 : Int32} (S : SK h) (k3 : (x1 < 0) → Q (some (.int (Int32.ofInt (-1)))) (yI (yI (yI h 35 1 (Int32.ofInt 0)) 35 0 (Int32.ofInt 0)) 35 0 (Int32.ofInt 1))) (k6 : (¬ x1 < 0) → ((zI h 35 15) ≤ x1) → Q (some (.int (Int32.ofInt (-1)))) (yI (yI (yI h 35 1 (Int32.ofInt 0)) 35 0 (Int32.ofInt 0)) 35 0 (Int32.ofInt 1))) (k9 : (¬ x1 < 0) → (¬ (zI h 35 15) ≤ x1) → (x2 < 0) → Q (some (.int (Int32.ofInt (-1)))) (yI (yI (yI h 35 1 (Int32.ofInt 0)) 35 0 (Int32.ofInt 0)) 35 0 (Int32.ofInt 2))) (k11 : (¬ x1 < 0) → (¬ (zI h 35 15) ≤ x1) → (¬ x2 < 0) → (x2 ≤ (Int32.ofInt 2)) → WP 148 0 [some (.ref 35), some (.int x1), some (.int (Int32.ofInt 0)), none, none, none] [] (yI (yI h 35 1 (Int32.ofInt 0)) 35 0 (Int32.ofInt 0)) (fun v1 h1 => WP 149 45 [some (.ref 35), some (.int x1), some (.int x2)] (v1.toList ++ []) h1 Q)) (k12 : (¬ x1 < 0) → (¬ (zI h 35 15) ≤ x1) → (¬ x2 < 0) → (¬ x2 ≤ (Int32.ofInt 2)) → Q (some (.int (Int32.ofInt (-1)))) (yI (yI (yI h 35 1 (Int32.ofInt 0)) 35 0 (Int32.ofInt 0)) 35 0 (Int32.ofInt 2))) : WP 149 0 [some (.ref 35), some (.int x1), some (.int x2)] [] h Q :=
  B149_0 (S.T 35) (B147_0 (fun c1 => B147_16 (B147_17 oi0 (B149_15 (fun q => absurd (by decide) q) (fun _ => B149_18 (S.T 35) (B123_0 (S.T 35) (B149_23 (k3 c1))))))) (fun c1 => B147_4 (S.T 35) (fun c4 => B147_16 (B147_17 oi0 (B149_15 (fun q => absurd (by decide) q) (fun _ => B149_18 (S.T 35) (B123_0 (S.T 35) (B149_23 (k6 c1 c4))))))) (fun c4 => B147_12 (B147_17 oi1 (B149_15 (fun _ => B149_24 (fun c8 => B149_33 (S.T 35) (B123_0 (S.T 35) (B149_38 (k9 c1 c4 c8)))) (fun c8 => B149_28 (fun c10 => B149_39 (S.T 35) (k11 c1 c4 c8 c10)) (fun c10 => B149_33 (S.T 35) (B123_0 (S.T 35) (B149_38 (k12 c1 c4 c8 c10)))))) (fun q => absurd q (by decide)))))))
theorem V149r {h : pm_H} {Q : Option Value → pm_H → Prop} {x2 : Int32} {s : Nat} (S : SK h) (g3 : (¬ x2 = 0) → (¬ x2 = (Int32.ofInt 1)) → vp_in (Int32.ofInt 0) 2) (k4 : (¬ x2 = 0) → (¬ x2 = (Int32.ofInt 1)) → Q (some (.int (zI h 65 ((Int32.ofInt 0)).toNatClampNeg))) h) (g5 : (¬ x2 = 0) → (x2 = (Int32.ofInt 1)) → vp_in (nI s) 12) (k6 : (¬ x2 = 0) → (x2 = (Int32.ofInt 1)) → Q (some (.int (zI h 38 ((nI s)).toNatClampNeg))) h) (g7 : (x2 = 0) → vp_in (nI s) 12) (k8 : (x2 = 0) → Q (some (.int ((zI h 37 ((nI s)).toNatClampNeg) - (Int32.ofInt 1)))) h) : WP 149 45 [some (.ref 35), some (.int (nI s)), some (.int x2)] [] h Q :=
  B149_45 (fun c1 => B149_60 (fun c2 => B149_74 (S.T 35) (S.R 35 52) ⟨(S.T 65), (S.bd 65 (g3 c1 c2))⟩ (B149_80 (k4 c1 c2))) (fun c2 => B149_65 (S.T 35) (S.R 35 20) ⟨(S.T 38), (S.bd 38 (g5 c1 c2))⟩ (B149_80 (k6 c1 c2)))) (fun c1 => B149_49 (S.T 35) (S.R 35 19) ⟨(S.T 37), (S.bd 37 (g7 c1))⟩ (B149_80 (k8 c1)))
/-- STRIP -/
theorem p_strip {h : pm_H} {x1 x2 : Int32} (I : INV h) : PAIR 89 149 [.int x1, .int x2] h := by
  obtain ⟨S, n1, i1, i2, i3, i4, i5, B, bo, ⟨b, b2, hb⟩, b3⟩ := id I
  have hl := bo.1
  have m15 := b3.1
  have S1 : ∀ v, SK (yI h 0 0 v) := fun v => ((Kp.rf.I0 0 _ rfl) : Kp false h _).SK S
  rcases i32c x1 with hx | ⟨s, hs, rfl⟩
  · refine V89 S b2 hb.2.1 (c15N S hb bo hx (V89n S ?_))
    refine V149 (S1 _) (fun _ => pfin I ((((Kp.rf.I0 0 _ rfl).I35 1 _ rfl).I35 0 _ rfl).I35 0 _ rfl) (by simp [zI_yI, va_upA])) ?_ ?_ ?_ ?_ <;> (intro c; exact absurd hx c)
  by_cases hs2 : s < B.1.length
  · obtain ⟨r1, r2, r3⟩ := b3.2.2.1 s hs2
    obtain ⟨u1, u2, u3, u4⟩ := bo.2.2.1 _ (List.getElem_mem hs2)
    sorry
  · refine V89 S b2 hb.2.1 (c15M hs S hb bo (by omega) (V89n S ?_))
    refine V149 (S1 _) ?_ ?_ ?_ ?_ ?_ <;> simp only [zI_yI, if_false] <;> simp (disch := omega) only [oi_l, oi_n, z_nI, nIA, nIM, nIS, nIlt, nIle, nIeq, nIC, vpI, Nat.add_sub_cancel, Nat.not_le, Nat.not_lt, m15, Nat.not_lt_zero, (show B.1.length ≤ s by omega), not_true_eq_false, not_false_eq_true, false_imp_iff, true_imp_iff, forall_const]
    exact pfin I ((((Kp.rf.I0 0 _ rfl).I35 1 _ rfl).I35 0 _ rfl).I35 0 _ rfl) (by simp [zI_yI, va_upA])

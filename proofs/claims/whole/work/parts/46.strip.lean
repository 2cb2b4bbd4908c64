theorem ngE {x : Int32} (hx : x < 0) {n : Nat} (hn : n < 2147483648) : (x = nI n) = False := by
  rw [eq_iff_iff, iff_false]
  intro e
  rw [lt_z, e, nI_i hn] at hx
  omega
theorem ngL {x : Int32} (hx : x < 0) {n : Nat} (hn : n < 2147483648) : (nI n ≤ x) = False := by
  rw [eq_iff_iff, iff_false, Int32.le_iff_toInt_le, nI_i hn]
  rw [lt_z] at hx
  omega
theorem ngLt {x : Int32} (hx : x < 0) {n : Nat} (hn : n < 2147483648) : (x < nI n) = True := by
  rw [eq_iff_iff, iff_true, Int32.lt_iff_toInt_lt, nI_i hn]
  rw [lt_z] at hx
  omega
theorem ngLe {x : Int32} (hx : x < 0) {n : Nat} (hn : n < 2147483648) : (x ≤ nI n) = True := by
  rw [eq_iff_iff, iff_true, Int32.le_iff_toInt_le, nI_i hn]
  rw [lt_z] at hx
  omega
theorem pfin {h g : pm_H} {v : Int32} (I : INV h) (k : Kp false h g) (st : zI g 0 0 = zI g 35 0) : some (Value.int v) = some (Value.int v) ∧ INV g ∧ (∃ x, some (Value.int v) = some (Value.int x)) ∧ zn g ≤ zn h + 200 ∧ zk g ≤ zk h + 14000 := ⟨rfl, I.gen k st, ⟨_, rfl⟩, k.cn⟩
theorem gD8 {l : List Nat} (h : ∀ c ∈ l, c < 8) (k : Nat) : l.getD k 0 < 8 := by
  rw [List.getD_eq_getElem?_getD]
  cases hq : l[k]? with
  | none => decide
  | some c => exact h c (List.mem_of_getElem? hq)
theorem pfinT {h g : pm_H} {v : Int32} (I : INV h) (k : Kp false h g) (st : zI g 0 0 = zI g 35 0) : True ∧ INV g ∧ (∃ x, some (Value.int v) = some (Value.int x)) ∧ zn g ≤ zn h + 200 ∧ zk g ≤ zk h + 14000 := ⟨trivial, I.gen k st, ⟨_, rfl⟩, k.cn⟩
theorem oi0' : Int32.ofInt 0 = 0 := rfl
theorem V89 {h : pm_H} {Q : Option Value → pm_H → Prop} {x1 : Int32} {x2 : Int32} {d3 : Option Value} {b1 : Nat} (S : SK h) (e2 : zR h 0 2 = some b1) (t3 : zT h b1 = 2) (k4 : WP 15 0 [some (.ref b1), some (.int x1)] [] h (fun v1 h1 => WP 89 8 [some (.ref 0), some (.int x1), some (.int x2), d3] (v1.toList ++ []) h1 Q)) : WP 89 0 [some (.ref 0), some (.int x1), some (.int x2), d3] [] h Q :=
  B89_0 (S.T 0) e2 t3 k4
theorem V89n {h : pm_H} {Q : Option Value → pm_H → Prop} {x1 : Int32} {x2 : Int32} {d3 : Option Value} (S : SK h) (k1 : Q (some (.int (Int32.ofInt (-1)))) (yI h 0 0 (Int32.ofInt 1))) : WP 89 8 [some (.ref 0), some (.int x1), some (.int x2), d3] [.null] h Q :=
  B89_8n (B89_13 (S.T 0) (B107_0 (S.T 0) (B89_18 k1)))
theorem V89r {h : pm_H} {Q : Option Value → pm_H → Prop} {x1 : Int32} {x2 : Int32} {r9 : Nat} {d3 : Option Value} {b5 : Nat} {b10 : Nat} (S : SK h) (t2 : (x2 = (Int32.ofInt 0)) → zT h r9 = 9) (k3 : (x2 = (Int32.ofInt 0)) → Q (some (.int (zI h r9 0))) (yI h 0 0 (Int32.ofInt 0))) (t4 : (¬ x2 = (Int32.ofInt 0)) → (x2 = (Int32.ofInt 1)) → zT h r9 = 9) (e6 : (¬ x2 = (Int32.ofInt 0)) → (x2 = (Int32.ofInt 1)) → zR h r9 1 = some b5) (g7 : (¬ x2 = (Int32.ofInt 0)) → (x2 = (Int32.ofInt 1)) → 100 ≤ zT h b5 ∧ zT h b5 ≤ 105) (k8 : (¬ x2 = (Int32.ofInt 0)) → (x2 = (Int32.ofInt 1)) → Q (some (.int (Int32.ofInt (zN h b5)))) (yI h 0 0 (Int32.ofInt 0))) (t9 : (¬ x2 = (Int32.ofInt 0)) → (¬ x2 = (Int32.ofInt 1)) → (x2 = (Int32.ofInt 2)) → zT h r9 = 9) (e11 : (¬ x2 = (Int32.ofInt 0)) → (¬ x2 = (Int32.ofInt 1)) → (x2 = (Int32.ofInt 2)) → zR h r9 2 = some b10) (g12 : (¬ x2 = (Int32.ofInt 0)) → (¬ x2 = (Int32.ofInt 1)) → (x2 = (Int32.ofInt 2)) → 100 ≤ zT h b10 ∧ zT h b10 ≤ 105) (k13 : (¬ x2 = (Int32.ofInt 0)) → (¬ x2 = (Int32.ofInt 1)) → (x2 = (Int32.ofInt 2)) → Q (some (.int (Int32.ofInt (zN h b10)))) (yI h 0 0 (Int32.ofInt 0))) (k14 : (¬ x2 = (Int32.ofInt 0)) → (¬ x2 = (Int32.ofInt 1)) → (¬ x2 = (Int32.ofInt 2)) → Q (some (.int (Int32.ofInt (-1)))) (yI h 0 0 (Int32.ofInt 2))) : WP 89 8 [some (.ref 0), some (.int x1), some (.int x2), d3] [.ref r9] h Q :=
  B89_8 (B89_19 ((if c1_0 : x2 = (Int32.ofInt 0) then WP.pcs (by rw [c1_0]; rfl) (B89_48 (t2 c1_0) (S.T 0) (B106_0 (S.T 0) (B89_56 (k3 c1_0)))) else (if c1_1 : x2 = (Int32.ofInt 1) then WP.pcs (by rw [c1_1]; rfl) (B89_57 (t4 c1_0 c1_1) (e6 c1_0 c1_1) (g7 c1_0 c1_1) (S.T 0) (B106_0 (S.T 0) (B89_66 (k8 c1_0 c1_1)))) else (if c1_2 : x2 = (Int32.ofInt 2) then WP.pcs (by rw [c1_2]; rfl) (B89_67 (t9 c1_0 c1_1 c1_2) (e11 c1_0 c1_1 c1_2) (g12 c1_0 c1_1 c1_2) (S.T 0) (B106_0 (S.T 0) (B89_76 (k13 c1_0 c1_1 c1_2)))) else (WP.pcs (if_pos (by have q0 := sw_ne c1_0; have q1 := sw_ne c1_1; have q2 := sw_ne c1_2; omega)) (B89_77 (S.T 0) (B107_0 (S.T 0) (B89_82 (k14 c1_0 c1_1 c1_2))))))))))
theorem V149 {h : pm_H} {Q : Option Value → pm_H → Prop} {x1 : Int32} {x2 : Int32} (S : SK h) (k3 : (x1 < 0) → Q (some (.int (Int32.ofInt (-1)))) (yI (yI (yI h 35 1 (Int32.ofInt 0)) 35 0 (Int32.ofInt 0)) 35 0 (Int32.ofInt 1))) (k6 : (¬ x1 < 0) → ((zI h 35 15) ≤ x1) → Q (some (.int (Int32.ofInt (-1)))) (yI (yI (yI h 35 1 (Int32.ofInt 0)) 35 0 (Int32.ofInt 0)) 35 0 (Int32.ofInt 1))) (k9 : (¬ x1 < 0) → (¬ (zI h 35 15) ≤ x1) → (x2 < 0) → Q (some (.int (Int32.ofInt (-1)))) (yI (yI (yI h 35 1 (Int32.ofInt 0)) 35 0 (Int32.ofInt 0)) 35 0 (Int32.ofInt 2))) (k11 : (¬ x1 < 0) → (¬ (zI h 35 15) ≤ x1) → (¬ x2 < 0) → (x2 ≤ (Int32.ofInt 2)) → WP 148 0 [some (.ref 35), some (.int x1), some (.int (Int32.ofInt 0)), none, none, none] [] (yI (yI h 35 1 (Int32.ofInt 0)) 35 0 (Int32.ofInt 0)) (fun v1 h1 => WP 149 45 [some (.ref 35), some (.int x1), some (.int x2)] (v1.toList ++ []) h1 Q)) (k12 : (¬ x1 < 0) → (¬ (zI h 35 15) ≤ x1) → (¬ x2 < 0) → (¬ x2 ≤ (Int32.ofInt 2)) → Q (some (.int (Int32.ofInt (-1)))) (yI (yI (yI h 35 1 (Int32.ofInt 0)) 35 0 (Int32.ofInt 0)) 35 0 (Int32.ofInt 2))) : WP 149 0 [some (.ref 35), some (.int x1), some (.int x2)] [] h Q :=
  B149_0 (S.T 35) (B147_0 (fun c1 => B147_16 (B147_17 oi0 (B149_15 (fun q => absurd (by decide) q) (fun _ => B149_18 (S.T 35) (B123_0 (S.T 35) (B149_23 (k3 c1))))))) (fun c1 => B147_4 (S.T 35) (fun c4 => B147_16 (B147_17 oi0 (B149_15 (fun q => absurd (by decide) q) (fun _ => B149_18 (S.T 35) (B123_0 (S.T 35) (B149_23 (k6 c1 c4))))))) (fun c4 => B147_12 (B147_17 oi1 (B149_15 (fun _ => B149_24 (fun c8 => B149_33 (S.T 35) (B123_0 (S.T 35) (B149_38 (k9 c1 c4 c8)))) (fun c8 => B149_28 (fun c10 => B149_39 (S.T 35) (k11 c1 c4 c8 c10)) (fun c10 => B149_33 (S.T 35) (B123_0 (S.T 35) (B149_38 (k12 c1 c4 c8 c10)))))) (fun q => absurd q (by decide)))))))
theorem V149r {h : pm_H} {Q : Option Value → pm_H → Prop} {x2 : Int32} {s : Nat} (S : SK h) (g3 : (¬ x2 = 0) → (¬ x2 = (Int32.ofInt 1)) → vp_in (Int32.ofInt 0) 2) (k4 : (¬ x2 = 0) → (¬ x2 = (Int32.ofInt 1)) → Q (some (.int (zI h 65 ((Int32.ofInt 0)).toNatClampNeg))) h) (g5 : (¬ x2 = 0) → (x2 = (Int32.ofInt 1)) → vp_in (nI s) 12) (k6 : (¬ x2 = 0) → (x2 = (Int32.ofInt 1)) → Q (some (.int (zI h 38 ((nI s)).toNatClampNeg))) h) (g7 : (x2 = 0) → vp_in (nI s) 12) (k8 : (x2 = 0) → Q (some (.int ((zI h 37 ((nI s)).toNatClampNeg) - (Int32.ofInt 1)))) h) : WP 149 45 [some (.ref 35), some (.int (nI s)), some (.int x2)] [] h Q :=
  B149_45 (fun c1 => B149_60 (fun c2 => B149_74 (S.T 35) (S.R 35 52) ⟨(S.T 65), (S.bd 65 (g3 c1 c2))⟩ (B149_80 (k4 c1 c2))) (fun c2 => B149_65 (S.T 35) (S.R 35 20) ⟨(S.T 38), (S.bd 38 (g5 c1 c2))⟩ (B149_80 (k6 c1 c2)))) (fun c1 => B149_49 (S.T 35) (S.R 35 19) ⟨(S.T 37), (S.bd 37 (g7 c1))⟩ (B149_80 (k8 c1)))
/-- STRIP -/
theorem p_strip {h : pm_H} {x1 x2 : Int32} (I : INV h) : PAIR 89 149 [.int x1, .int x2] h := by
  obtain ⟨S, n1, i1, i2, i3, i4, i5, B, bo, ⟨b, b2, hb⟩, b3⟩ := id I
  have hl := bo.1
  have m15 := b3.1
  have S1 : ∀ v, SK (yI h 0 0 v) := fun v => ((Kp.rf.I0 0 _ rfl) : Kp false h _).SK S
  rcases i32c x1 with hx | ⟨s, hs, rfl⟩
  · refine V89 S b2 hb.2.1 (c15N S hb bo hx (V89n S ?_))
    refine V149 (S1 _) ?_ ?_ ?_ ?_ ?_ <;> simp (disch := omega) only [oi_l, oi_n, z_nI, nIA, nIM, nIS, nIlt, nIle, nIeq, nIC, vpI, Nat.add_sub_cancel, Nat.not_le, Nat.not_lt, Nat.not_lt_zero, Nat.le_refl, not_true_eq_false, not_false_eq_true, false_imp_iff, true_imp_iff, forall_const, implies_true, Nat.reduceEqDiff, Nat.reduceLeDiff, Nat.reduceLT, zI_yI, va_upA, Nat.reduceEqDiff, ↓reduceIte, ngLt hx]
    first | exact pfin I ((((Kp.rf.I0 0 _ rfl).I35 1 _ rfl).I35 0 _ rfl).I35 0 _ rfl) (by simp [zI_yI, va_upA]) | exact pfinT I ((((Kp.rf.I0 0 _ rfl).I35 1 _ rfl).I35 0 _ rfl).I35 0 _ rfl) (by simp [zI_yI, va_upA])
  by_cases hs2 : s < B.1.length
  · obtain ⟨r1, r2, r3⟩ := b3.2.2.1 s hs2
    obtain ⟨u1, u2, u3, u4⟩ := bo.2.2.1 _ (List.getElem_mem hs2)
    have hcl : ∀ k, B.1[s].2.getD k 0 < 8 := gD8 u4
    refine V89 S b2 hb.2.1 (c15S S hb bo hs2 (fun p hp => ?_))
    obtain ⟨q1, q2, q3, pa, ea, q4, q5, q6, q7, q8, q9, q10, q11, q12, q13⟩ := hp
    have ha := (bk_al u2).2.1
    have hs3 : ¬ B.1.length ≤ s := by omega
    rcases i32c x2 with hy | ⟨v, hv, rfl⟩
    · refine V89r (b5 := pa) (b10 := ea) S ?_ ?_ ?_ ?_ ?_ ?_ ?_ ?_ ?_ ?_ ?_ <;> simp (disch := omega) only [oi_l, oi_n, z_nI, nIA, nIM, nIS, nIlt, nIle, nIeq, nIC, vpI, Nat.add_sub_cancel, Nat.not_le, Nat.not_lt, Nat.not_lt_zero, Nat.le_refl, not_true_eq_false, not_false_eq_true, false_imp_iff, true_imp_iff, forall_const, implies_true, Nat.reduceEqDiff, Nat.reduceLeDiff, Nat.reduceLT, ngE hy]
      refine V149 (S1 _) ?_ ?_ ?_ ?_ ?_ <;> simp (disch := omega) only [oi_l, oi_n, z_nI, nIA, nIM, nIS, nIlt, nIle, nIeq, nIC, vpI, Nat.add_sub_cancel, Nat.not_le, Nat.not_lt, Nat.not_lt_zero, Nat.le_refl, not_true_eq_false, not_false_eq_true, false_imp_iff, true_imp_iff, forall_const, implies_true, Nat.reduceEqDiff, Nat.reduceLeDiff, Nat.reduceLT, zI_yI, va_upA, Nat.reduceEqDiff, ↓reduceIte, m15, ngLt hy, hs3]
      first | exact pfin I ((((Kp.rf.I0 0 _ rfl).I35 1 _ rfl).I35 0 _ rfl).I35 0 _ rfl) (by simp [zI_yI, va_upA]) | exact pfinT I ((((Kp.rf.I0 0 _ rfl).I35 1 _ rfl).I35 0 _ rfl).I35 0 _ rfl) (by simp [zI_yI, va_upA])
    by_cases hv2 : 2 < v
    · refine V89r (b5 := pa) (b10 := ea) S ?_ ?_ ?_ ?_ ?_ ?_ ?_ ?_ ?_ ?_ ?_ <;> simp (disch := omega) only [oi_l, oi_n, z_nI, nIA, nIM, nIS, nIlt, nIle, nIeq, nIC, vpI, Nat.add_sub_cancel, Nat.not_le, Nat.not_lt, Nat.not_lt_zero, Nat.le_refl, not_true_eq_false, not_false_eq_true, false_imp_iff, true_imp_iff, forall_const, implies_true, Nat.reduceEqDiff, Nat.reduceLeDiff, Nat.reduceLT, show ¬ v = 0 by omega, show ¬ v = 1 by omega, show ¬ v = 2 by omega]
      refine V149 (S1 _) ?_ ?_ ?_ ?_ ?_ <;> simp (disch := omega) only [oi_l, oi_n, z_nI, nIA, nIM, nIS, nIlt, nIle, nIeq, nIC, vpI, Nat.add_sub_cancel, Nat.not_le, Nat.not_lt, Nat.not_lt_zero, Nat.le_refl, not_true_eq_false, not_false_eq_true, false_imp_iff, true_imp_iff, forall_const, implies_true, Nat.reduceEqDiff, Nat.reduceLeDiff, Nat.reduceLT, zI_yI, va_upA, Nat.reduceEqDiff, ↓reduceIte, m15, hs3, show ¬ v ≤ 2 by omega]
      first | exact pfin I ((((Kp.rf.I0 0 _ rfl).I35 1 _ rfl).I35 0 _ rfl).I35 0 _ rfl) (by simp [zI_yI, va_upA]) | exact pfinT I ((((Kp.rf.I0 0 _ rfl).I35 1 _ rfl).I35 0 _ rfl).I35 0 _ rfl) (by simp [zI_yI, va_upA])
    have M : ∀ a, a = (if v = 0 then nI B.1[s].1 else if v = 1 then nI B.1[s].2.length else nI (bkn B.1[s].2)) → WP 149 0 [some (.ref 35), some (.int (nI s)), some (.int (nI v))] [] (yI h 0 0 (nI 0)) (fun v2 h2 => some (.int a) = v2 ∧ INV h2 ∧ (∃ x, some (Value.int a) = some (Value.int x)) ∧ zn h2 ≤ zn h + 200 ∧ zk h2 ≤ zk h + 14000) := by
      intro a ea
      refine V149 (S1 _) ?_ ?_ ?_ ?_ ?_ <;> simp (disch := omega) only [oi_l, oi_n, z_nI, nIA, nIM, nIS, nIlt, nIle, nIeq, nIC, vpI, Nat.add_sub_cancel, Nat.not_le, Nat.not_lt, Nat.not_lt_zero, Nat.le_refl, not_true_eq_false, not_false_eq_true, false_imp_iff, true_imp_iff, forall_const, implies_true, Nat.reduceEqDiff, Nat.reduceLeDiff, Nat.reduceLT, zI_yI, va_upA, Nat.reduceEqDiff, ↓reduceIte, m15, hs3, show v ≤ 2 by omega]
      have K : Kp false h (yI (yI (yI h 0 0 (nI 0)) 35 1 (nI 0)) 35 0 (nI 0)) := (((Kp.rf.I0 0 _ rfl).I35 1 _ rfl).I35 0 _ rfl)
      refine c148 (l := B.1[s].2) (K.SK S) u3 u2 (by omega) (by omega) hcl (by rw [K.r 38]; exact r2) (by rw [K.r 45]; exact r3) (fun g sg bl blf e65 => ?_)
      have K2 : Kp false h g := K.tr (Kp.of sg rfl)
      have t1 : zI g 65 0 = nI (bkn B.1[s].2) := by rw [e65]; simp [va_upA]
      have t2 : zI g 38 s = nI B.1[s].2.length := by rw [K2.r 38]; exact r2
      have t3 : zI g 37 s = nI (B.1[s].1 + 1) := by rw [K2.r 37]; exact r1
      have fin : INV g := I.gen K2 (by rw [sg.1 0 (by decide), sg.1 35 (by decide)]; simp [zI_yI, va_upA])
      refine V149r (K2.SK S) ?_ ?_ ?_ ?_ ?_ ?_ <;> simp (disch := omega) only [oi_l, oi_n, z_nI, nIA, nIM, nIS, nIlt, nIle, nIeq, nIC, vpI, Nat.add_sub_cancel, Nat.not_le, Nat.not_lt, Nat.not_lt_zero, Nat.le_refl, not_true_eq_false, not_false_eq_true, false_imp_iff, true_imp_iff, forall_const, implies_true, Nat.reduceEqDiff, Nat.reduceLeDiff, Nat.reduceLT, t1, t2, t3] <;> (try omega)
      · intro c1 c2; rw [if_neg c1, if_neg c2] at ea; exact ⟨by rw [ea], fin, ⟨_, rfl⟩, K2.cn⟩
      · intro c1 c2; rw [if_neg c1, if_pos c2] at ea; exact ⟨by rw [ea], fin, ⟨_, rfl⟩, K2.cn⟩
      · intro c1; rw [if_pos c1] at ea; exact ⟨by rw [ea], fin, ⟨_, rfl⟩, K2.cn⟩
    refine V89r (b5 := pa) (b10 := ea) S ?_ ?_ ?_ ?_ ?_ ?_ ?_ ?_ ?_ ?_ ?_ <;> simp (disch := omega) only [oi_l, oi_n, z_nI, nIA, nIM, nIS, nIlt, nIle, nIeq, nIC, vpI, Nat.add_sub_cancel, Nat.not_le, Nat.not_lt, Nat.not_lt_zero, Nat.le_refl, not_true_eq_false, not_false_eq_true, false_imp_iff, true_imp_iff, forall_const, implies_true, Nat.reduceEqDiff, Nat.reduceLeDiff, Nat.reduceLT, q2, q3, q4, q6, q7, q9, q11, q12, Nat.reduceLeDiff, and_self, implies_true]
    · intro c; exact M _ (by rw [if_pos c])
    · intro c d; exact M _ (by rw [if_neg c, if_pos d])
    · intro c d f; exact M _ (by rw [if_neg c, if_neg d]; rfl)
    · omega
  · refine V89 S b2 hb.2.1 (c15M hs S hb bo (by omega) (V89n S ?_))
    have hs3 : B.1.length ≤ s := by omega
    refine V149 (S1 _) ?_ ?_ ?_ ?_ ?_ <;> simp (disch := omega) only [oi_l, oi_n, z_nI, nIA, nIM, nIS, nIlt, nIle, nIeq, nIC, vpI, Nat.add_sub_cancel, Nat.not_le, Nat.not_lt, Nat.not_lt_zero, Nat.le_refl, not_true_eq_false, not_false_eq_true, false_imp_iff, true_imp_iff, forall_const, implies_true, Nat.reduceEqDiff, Nat.reduceLeDiff, Nat.reduceLT, zI_yI, va_upA, Nat.reduceEqDiff, ↓reduceIte, m15, hs3]
    first | exact pfin I ((((Kp.rf.I0 0 _ rfl).I35 1 _ rfl).I35 0 _ rfl).I35 0 _ rfl) (by simp [zI_yI, va_upA]) | exact pfinT I ((((Kp.rf.I0 0 _ rfl).I35 1 _ rfl).I35 0 _ rfl).I35 0 _ rfl) (by simp [zI_yI, va_upA])

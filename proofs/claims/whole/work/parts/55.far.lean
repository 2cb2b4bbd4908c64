/-! FAR -/
def mnI (a b : Int32) : Int32 := if b < a then b else a
def mxI (a b : Int32) : Int32 := if a < b then b else a
def absI (x : Int32) : Int32 := if 0 ≤ x then x else 0 - x
def fR0 (m2 : Nat → Int32) : Nat → Int32
  | 0 => nI 0
  | j + 1 => fR0 m2 j + m2 j
def fRS (prev : Nat → Int32) (m1 : Int32) (tu m2 : Nat → Int32) : Nat → Int32
  | 0 => prev 0 + m1
  | j + 1 => mnI (prev j + tu j) (mnI (prev (j + 1) + m1) (fRS prev m1 tu m2 j + m2 j))
def fR (m1 m2 : Nat → Int32) (tu : Nat → Nat → Int32) : Nat → Nat → Int32
  | 0 => fR0 m2
  | i + 1 => fRS (fR m1 m2 tu i) (m1 i) (tu i) m2
def fM (l : List Nat) (j : Nat) : Int32 := nI (bkm l j)
def fT (l1 l2 : List Nat) (i j : Nat) : Int32 := absI (nI (bkm l1 i) - nI (bkm l2 j)) + (if bkc l1 i = bkc l2 j then nI 0 else nI 5)
def fA (l1 l2 : List Nat) (i j : Nat) : Int32 := fR (fM l1) (fM l2) (fT l1 l2) i j
theorem V58 {h : pm_H} {Q : Option Value → pm_H → Prop} {p : Nat} {x1 : Int32} {b2 : Nat} {b4 : Nat} (S : SK h) (t1 : zT h p = 9) (e3 : zR h p 1 = some b2) (e5 : zR h p 2 = some b4) (t6 : zT h b4 = 100) (g7 : vp_in x1 (zN h b4)) (t8 : zT h b2 = 101) (g9 : vp_in ((zI h b4 (x1).toNatClampNeg) - (Int32.ofInt 1)) (zN h b2)) (k10 : Q (some (.int (zI h b2 (((zI h b4 (x1).toNatClampNeg) - (Int32.ofInt 1))).toNatClampNeg))) h) : WP 58 0 [some (.ref p), some (.int x1)] [] h Q :=
  B58_0 t1 e3 e5 ⟨t6, g7⟩ ⟨t8, g9⟩ k10
theorem V59 {h : pm_H} {Q : Option Value → pm_H → Prop} {p : Nat} {x1 : Int32} {b3 : Nat} (S : SK h) (t2 : (¬ x1 = 0) → zT h p = 9) (e4 : (¬ x1 = 0) → zR h p 2 = some b3) (t5 : (¬ x1 = 0) → zT h b3 = 100) (g6 : (¬ x1 = 0) → vp_in x1 (zN h b3)) (t7 : (¬ x1 = 0) → zT h b3 = 100) (g8 : (¬ x1 = 0) → vp_in (x1 - (Int32.ofInt 1)) (zN h b3)) (k9 : (¬ x1 = 0) → Q (some (.int ((zI h b3 (x1).toNatClampNeg) - (zI h b3 ((x1 - (Int32.ofInt 1))).toNatClampNeg)))) h) (t10 : (x1 = 0) → zT h p = 9) (e11 : (x1 = 0) → zR h p 2 = some b3) (t12 : (x1 = 0) → zT h b3 = 100) (g13 : (x1 = 0) → vp_in (Int32.ofInt 0) (zN h b3)) (k14 : (x1 = 0) → Q (some (.int (zI h b3 ((Int32.ofInt 0)).toNatClampNeg))) h) : WP 59 0 [some (.ref p), some (.int x1)] [] h Q :=
  B59_0 (fun c1 => B59_13 (t2 c1) (e4 c1) ⟨(t5 c1), (g6 c1)⟩ ⟨(t7 c1), (g8 c1)⟩ (B59_28 (k9 c1))) (fun c1 => B59_4 (t10 c1) (e11 c1) ⟨(t12 c1), (g13 c1)⟩ (B59_28 (k14 c1)))
theorem V120 {h : pm_H} {Q : Option Value → pm_H → Prop} {x1 : Int32} {x2 : Int32} {p : Nat} {d4 : Option Value} {d5 : Option Value} {d6 : Option Value} {d7 : Option Value} {d8 : Option Value} (S : SK h) (g1 : vp_in (Int32.ofInt 0) 401) (k2 : WP 120 21 [some (.ref 0), some (.int x1), some (.int x2), some (.ref p), some (.int (zI h 33 ((Int32.ofInt 0)).toNatClampNeg)), some (.int (Int32.ofInt 0)), d6, d7, d8] [] (yI h 33 ((Int32.ofInt 0)).toNatClampNeg ((zI h 33 ((Int32.ofInt 0)).toNatClampNeg) + x2)) Q) : WP 120 0 [some (.ref 0), some (.int x1), some (.int x2), some (.ref p), d4, d5, d6, d7, d8] [] h Q :=
  B120_0 (S.T 0) (S.R 0 8) ⟨(S.T 33), (S.bd 33 g1)⟩ (k2)
theorem V120L {h : pm_H} {Q : Option Value → pm_H → Prop} {x1 : Int32} {x2 : Int32} {p : Nat} {ak : Int32} {d6 : Option Value} {d7 : Option Value} {d8 : Option Value} {j : Nat} {b2 : Nat} (S : SK h) (t1 : zT h p = 9) (e3 : zR h p 2 = some b2) (g4 : 100 ≤ zT h b2 ∧ zT h b2 ≤ 105) (k6 : ((Int32.ofInt (zN h b2)) ≤ (nI j)) → Q none h) (t7 : (¬ (Int32.ofInt (zN h b2)) ≤ (nI j)) → zT h p = 9) (k8 : (¬ (Int32.ofInt (zN h b2)) ≤ (nI j)) → WP 59 0 [some (.ref p), some (.int (nI j))] [] h (fun v1 h1 => WP 120 37 [some (.ref 0), some (.int x1), some (.int x2), some (.ref p), some (.int ak), some (.int (nI j)), d6, d7, d8] (v1.toList ++ []) h1 Q)) : WP 120 21 [some (.ref 0), some (.int x1), some (.int x2), some (.ref p), some (.int ak), some (.int (nI j)), d6, d7, d8] [] h Q :=
  B120_21 t1 e3 g4 (fun c5 => B120_116 (k6 c5)) (fun c5 => B120_31 (t7 c5) (k8 c5))
theorem V120a {h : pm_H} {Q : Option Value → pm_H → Prop} {x1 : Int32} {x2 : Int32} {p : Nat} {ak : Int32} {op : Int32} {d6 : Option Value} {d7 : Option Value} {d8 : Option Value} {j : Nat} (S : SK h) (t1 : zT h p = 9) (k2 : WP 58 0 [some (.ref p), some (.int (nI j))] [] h (fun v1 h1 => WP 120 58 [some (.ref 0), some (.int x1), some (.int x2), some (.ref p), some (.int ak), some (.int (nI j)), some (.int op), some (.int (ak + (absI (x2 - op)))), d8] (v1.toList ++ [.int x1]) h1 Q)) : WP 120 37 [some (.ref 0), some (.int x1), some (.int x2), some (.ref p), some (.int ak), some (.int (nI j)), d6, d7, d8] [.int op] h Q :=
  B120_37 t1 k2
theorem V120b {h : pm_H} {Q : Option Value → pm_H → Prop} {x1 : Int32} {x2 : Int32} {p : Nat} {ak : Int32} {op : Int32} {be : Int32} {cc : Int32} {d8 : Option Value} {j : Nat} (S : SK h) (g2 : (x1 = cc) → vp_in ((nI j) + (Int32.ofInt 1)) 401) (g3 : (x1 = cc) → vp_in (nI j) 401) (k4 : (x1 = cc) → WP 120 21 [some (.ref 0), some (.int x1), some (.int x2), some (.ref p), some (.int (zI h 33 (((nI j) + (Int32.ofInt 1))).toNatClampNeg)), some (.int ((nI j) + (Int32.ofInt 1))), some (.int op), some (.int be), some (.int (mnI ((zI h 33 (((nI j) + (Int32.ofInt 1))).toNatClampNeg) + x2) ((zI h 33 ((nI j)).toNatClampNeg) + op)))] [] (yI h 33 (((nI j) + (Int32.ofInt 1))).toNatClampNeg (mnI be (mnI ((zI h 33 (((nI j) + (Int32.ofInt 1))).toNatClampNeg) + x2) ((zI h 33 ((nI j)).toNatClampNeg) + op)))) Q) (g5 : (¬ x1 = cc) → vp_in ((nI j) + (Int32.ofInt 1)) 401) (g6 : (¬ x1 = cc) → vp_in (nI j) 401) (k7 : (¬ x1 = cc) → WP 120 21 [some (.ref 0), some (.int x1), some (.int x2), some (.ref p), some (.int (zI h 33 (((nI j) + (Int32.ofInt 1))).toNatClampNeg)), some (.int ((nI j) + (Int32.ofInt 1))), some (.int op), some (.int (be + (Int32.ofInt 5))), some (.int (mnI ((zI h 33 (((nI j) + (Int32.ofInt 1))).toNatClampNeg) + x2) ((zI h 33 ((nI j)).toNatClampNeg) + op)))] [] (yI h 33 (((nI j) + (Int32.ofInt 1))).toNatClampNeg (mnI (be + (Int32.ofInt 5)) (mnI ((zI h 33 (((nI j) + (Int32.ofInt 1))).toNatClampNeg) + x2) ((zI h 33 ((nI j)).toNatClampNeg) + op)))) Q) : WP 120 58 [some (.ref 0), some (.int x1), some (.int x2), some (.ref p), some (.int ak), some (.int (nI j)), some (.int op), some (.int be), d8] [.int cc, .int x1] h Q :=
  B120_58 (fun c1 => B120_64 (S.T 0) (S.R 0 8) ⟨(S.T 33), (S.bd 33 (g2 c1))⟩ ⟨(S.T 33), (S.bd 33 (g3 c1))⟩ (k4 c1)) (fun c1 => B120_61 (B120_64 (S.T 0) (S.R 0 8) ⟨(S.T 33), (S.bd 33 (g5 c1))⟩ ⟨(S.T 33), (S.bd 33 (g6 c1))⟩ (k7 c1)))
theorem V119 {h : pm_H} {Q : Option Value → pm_H → Prop} {p : Nat} {r : Nat} {d3 : Option Value} {d4 : Option Value} {b2 : Nat} (S : SK h) (t1 : zT h r = 9) (e3 : zR h r 2 = some b2) (g4 : 100 ≤ zT h b2 ∧ zT h b2 ≤ 105) (g5 : vp_in (Int32.ofInt 0) 401) (k6 : WP 119 16 [some (.ref 0), some (.ref p), some (.ref r), some (.int (Int32.ofInt (zN h b2))), some (.int (Int32.ofInt 0))] [] (yI h 33 ((Int32.ofInt 0)).toNatClampNeg (Int32.ofInt 0)) Q) : WP 119 0 [some (.ref 0), some (.ref p), some (.ref r), d3, d4] [] h Q :=
  B119_0 t1 e3 g4 (S.T 0) (S.R 0 8) ⟨(S.T 33), (S.bd 33 g5)⟩ (k6)
theorem V119L {h : pm_H} {Q : Option Value → pm_H → Prop} {p : Nat} {r : Nat} {n : Nat} {j : Nat} (S : SK h) (k2 : ((nI n) ≤ (nI j)) → WP 119 54 [some (.ref 0), some (.ref p), some (.ref r), some (.int (nI n)), some (.int (Int32.ofInt 0))] [] h Q) (g3 : (¬ (nI n) ≤ (nI j)) → vp_in (nI j) 401) (t4 : (¬ (nI n) ≤ (nI j)) → zT h r = 9) (k5 : (¬ (nI n) ≤ (nI j)) → WP 59 0 [some (.ref r), some (.int (nI j))] [] h (fun v1 h1 => WP 119 43 [some (.ref 0), some (.ref p), some (.ref r), some (.int (nI n)), some (.int (nI j))] (v1.toList ++ [.int (zI h 33 ((nI j)).toNatClampNeg), .int ((nI j) + (Int32.ofInt 1)), .ref 33]) h1 Q)) : WP 119 16 [some (.ref 0), some (.ref p), some (.ref r), some (.int (nI n)), some (.int (nI j))] [] h Q :=
  B119_16 (fun c1 => B119_51 (k2 c1)) (fun c1 => B119_22 (S.T 0) (S.R 0 8) ⟨(S.T 33), (S.bd 33 (g3 c1))⟩ (t4 c1) (k5 c1))
theorem V119a {h : pm_H} {Q : Option Value → pm_H → Prop} {p : Nat} {r : Nat} {ix : Int32} {va : Int32} {op : Int32} {n : Nat} {j : Nat} (S : SK h) (g1 : vp_in ix 401) (k2 : WP 119 16 [some (.ref 0), some (.ref p), some (.ref r), some (.int (nI n)), some (.int ((nI j) + (Int32.ofInt 1)))] [] (yI h 33 (ix).toNatClampNeg (va + op)) Q) : WP 119 43 [some (.ref 0), some (.ref p), some (.ref r), some (.int (nI n)), some (.int (nI j))] [.int op, .int va, .int ix, .ref 33] h Q :=
  B119_43 ⟨(S.T 33), (S.bd 33 g1)⟩ (k2)
theorem V119M {h : pm_H} {Q : Option Value → pm_H → Prop} {p : Nat} {r : Nat} {n : Nat} {i : Nat} {b2 : Nat} (S : SK h) (t1 : zT h p = 9) (e3 : zR h p 2 = some b2) (g4 : 100 ≤ zT h b2 ∧ zT h b2 ≤ 105) (g6 : ((Int32.ofInt (zN h b2)) ≤ (nI i)) → vp_in (nI n) 401) (k7 : ((Int32.ofInt (zN h b2)) ≤ (nI i)) → Q (some (.int (zI h 33 ((nI n)).toNatClampNeg))) h) (t8 : (¬ (Int32.ofInt (zN h b2)) ≤ (nI i)) → zT h p = 9) (k9 : (¬ (Int32.ofInt (zN h b2)) ≤ (nI i)) → WP 58 0 [some (.ref p), some (.int (nI i))] [] h (fun v1 h1 => WP 119 71 [some (.ref 0), some (.ref p), some (.ref r), some (.int (nI n)), some (.int (nI i))] (v1.toList ++ [.ref 0]) h1 Q)) : WP 119 54 [some (.ref 0), some (.ref p), some (.ref r), some (.int (nI n)), some (.int (nI i))] [] h Q :=
  B119_54 t1 e3 g4 (fun c5 => B119_87 (S.T 0) (S.R 0 8) ⟨(S.T 33), (S.bd 33 (g6 c5))⟩ (k7 c5)) (fun c5 => B119_64 (t8 c5) (k9 c5))
theorem V119b {h : pm_H} {Q : Option Value → pm_H → Prop} {p : Nat} {r : Nat} {cc : Int32} {n : Nat} {i : Nat} (S : SK h) (t1 : zT h p = 9) (k2 : WP 59 0 [some (.ref p), some (.int (nI i))] [] h (fun v1 h1 => WP 119 77 [some (.ref 0), some (.ref p), some (.ref r), some (.int (nI n)), some (.int (nI i))] (v1.toList ++ [.int cc, .ref 0]) h1 Q)) : WP 119 71 [some (.ref 0), some (.ref p), some (.ref r), some (.int (nI n)), some (.int (nI i))] [.int cc, .ref 0] h Q :=
  B119_71 t1 k2
theorem V119c {h : pm_H} {Q : Option Value → pm_H → Prop} {p : Nat} {r : Nat} {cc : Int32} {pp : Int32} {n : Nat} {i : Nat} (S : SK h) (k1 : WP 120 0 [some (.ref 0), some (.int cc), some (.int pp), some (.ref r), none, none, none, none, none] [] h (fun v1 h1 => WP 119 81 [some (.ref 0), some (.ref p), some (.ref r), some (.int (nI n)), some (.int (nI i))] (v1.toList ++ []) h1 Q)) : WP 119 77 [some (.ref 0), some (.ref p), some (.ref r), some (.int (nI n)), some (.int (nI i))] [.int pp, .int cc, .ref 0] h Q :=
  B119_77 (S.T 0) k1
theorem V119d {h : pm_H} {Q : Option Value → pm_H → Prop} {p : Nat} {r : Nat} {n : Nat} {i : Nat} (S : SK h) (k1 : WP 119 54 [some (.ref 0), some (.ref p), some (.ref r), some (.int (nI n)), some (.int ((nI i) + (Int32.ofInt 1)))] [] h Q) : WP 119 81 [some (.ref 0), some (.ref p), some (.ref r), some (.int (nI n)), some (.int (nI i))] [] h Q :=
  B119_81 (k1)
section FAR
variable {h : pm_H} {Q : Option Value → pm_H → Prop}
theorem c58 {p k : Nat} {s : BkS} (S : SK h) (hp : atS h p s) (ok : okS s.2) (hk : k < bkn s.2) (k0 : Q (some (.int (nI (bkc s.2 k)))) h) : WP 58 0 [some (.ref p), some (.int (nI k))] [] h Q := by
  obtain ⟨q1, q2, q3, pa, ea, q4, q5, q6, q7, q8, q9, q10, q11, q12, q13⟩ := hp
  obtain ⟨a1, a2, a3, a4, a5⟩ := bk_al ok.1
  have l1 := ok.2.1
  have q12' : zN h ea = bkn s.2 := q12
  have q13' : zI h ea k = nI (bke s.2 k) := q13 k hk
  obtain ⟨w1, w2⟩ := a4 k hk
  have ec := q8 (bke s.2 k - 1) (by omega)
  refine V58 (b2 := pa) (b4 := ea) S ?_ ?_ ?_ ?_ ?_ ?_ ?_ ?_ <;> simp (disch := omega) only [oi_l, oi_n, z_nI, nIA, nIM, nIS, nIlt, nIle, nIeq, nIC, vpI, Nat.add_sub_cancel, Nat.not_le, Nat.not_lt, Nat.not_lt_zero, Nat.le_refl, not_true_eq_false, not_false_eq_true, false_imp_iff, true_imp_iff, forall_const, implies_true, Nat.reduceEqDiff, Nat.reduceLeDiff, Nat.reduceLT, q2, q4, q6, q7, q9, q11, q12', q13', ec] <;> first | omega | exact k0
theorem c59 {p k : Nat} {s : BkS} (S : SK h) (hp : atS h p s) (ok : okS s.2) (hk : k < bkn s.2) (k0 : Q (some (.int (nI (bkm s.2 k)))) h) : WP 59 0 [some (.ref p), some (.int (nI k))] [] h Q := by
  obtain ⟨q1, q2, q3, pa, ea, q4, q5, q6, q7, q8, q9, q10, q11, q12, q13⟩ := hp
  obtain ⟨a1, a2, a3, a4, a5⟩ := bk_al ok.1
  have l1 := ok.2.1
  have q12' : zN h ea = bkn s.2 := q12
  have q13' : zI h ea k = nI (bke s.2 k) := q13 k hk
  obtain ⟨w1, w2⟩ := a4 k hk
  by_cases hk0 : k = 0
  · subst hk0
    refine V59 (b3 := ea) S ?_ ?_ ?_ ?_ ?_ ?_ ?_ ?_ ?_ ?_ ?_ ?_ <;> simp (disch := omega) only [oi_l, oi_n, z_nI, nIA, nIM, nIS, nIlt, nIle, nIeq, nIC, vpI, Nat.add_sub_cancel, Nat.not_le, Nat.not_lt, Nat.not_lt_zero, Nat.le_refl, not_true_eq_false, not_false_eq_true, false_imp_iff, true_imp_iff, forall_const, implies_true, Nat.reduceEqDiff, Nat.reduceLeDiff, Nat.reduceLT, q2, q4, q6, q7, q9, q11, q12', q13'] <;> first | omega | exact k0
  · have q14 : zI h ea (k - 1) = nI (bke s.2 (k - 1)) := q13 (k - 1) (by omega)
    have w3 := a5 (k - 1) (by omega)
    rw [show k - 1 + 1 = k by omega] at w3
    unfold bkm at k0
    rw [if_neg hk0] at k0
    refine V59 (b3 := ea) S ?_ ?_ ?_ ?_ ?_ ?_ ?_ ?_ ?_ ?_ ?_ ?_ <;> simp (disch := omega) only [oi_l, oi_n, z_nI, nIA, nIM, nIS, nIlt, nIle, nIeq, nIC, vpI, Nat.add_sub_cancel, Nat.not_le, Nat.not_lt, Nat.not_lt_zero, Nat.le_refl, not_true_eq_false, not_false_eq_true, false_imp_iff, true_imp_iff, forall_const, implies_true, Nat.reduceEqDiff, Nat.reduceLeDiff, Nat.reduceLT, q2, q4, q6, q7, q9, q11, q12', q13', q14, hk0] <;> first | omega | exact k0
/-- addBlockToFarRow -/
theorem c120 {r i : Nat} {l1 : List Nat} {s2 : BkS} (S : SK h) (hr : atS h r s2) (ok1 : okS l1) (ok2 : okS s2.2) (e33 : ∀ t, t ≤ bkn s2.2 → zI h 33 t = fA l1 s2.2 i t) (k0 : ∀ g, Same [33] h g → (∀ t, t ≤ bkn s2.2 → zI g 33 t = fA l1 s2.2 (i + 1) t) → Q none g) : WP 120 0 [some (.ref 0), some (.int (nI (bkc l1 i))), some (.int (nI (bkm l1 i))), some (.ref r), none, none, none, none, none] [] h Q := by
  obtain ⟨a1, a2, a3, a4, a5⟩ := bk_al ok2.1
  have l2 := ok2.2.1
  have hb : ∀ j, bkc s2.2 j < 8 := fun j => ok2.2.2 _
  have hb1 : bkc l1 i < 8 := ok1.2.2 _
  have L : ∀ m j (g : pm_H) (d6 d7 d8 : Option Value), j + m = bkn s2.2 → Same [33] h g → (∀ t, t ≤ j → zI g 33 t = fA l1 s2.2 (i + 1) t) → (∀ t, j < t → t ≤ bkn s2.2 → zI g 33 t = fA l1 s2.2 i t) → WP 120 21 [some (.ref 0), some (.int (nI (bkc l1 i))), some (.int (nI (bkm l1 i))), some (.ref r), some (.int (fA l1 s2.2 i j)), some (.int (nI j)), d6, d7, d8] [] g Q := by
    intro m
    induction m with
    | zero =>
      intro j g d6 d7 d8 hj sg f1 f2
      have S' := sg.SK S
      obtain ⟨q1, q2, q3, pa, ea, q4, q5, q6, q7, q8, q9, q10, q11, q12, q13⟩ := hr.keep (sg.D (by decide))
      have q12' : zN g ea = bkn s2.2 := q12
      obtain rfl : j = bkn s2.2 := by omega
      refine V120L (b2 := ea) S' ?_ ?_ ?_ ?_ ?_ ?_ <;> simp (disch := omega) only [oi_l, oi_n, z_nI, nIA, nIM, nIS, nIlt, nIle, nIeq, nIC, vpI, Nat.add_sub_cancel, Nat.not_le, Nat.not_lt, Nat.not_lt_zero, Nat.le_refl, not_true_eq_false, not_false_eq_true, false_imp_iff, true_imp_iff, forall_const, implies_true, Nat.reduceEqDiff, Nat.reduceLeDiff, Nat.reduceLT, q2, q9, q11, q12', and_self] <;> first | omega | exact k0 g sg f1
    | succ m ih =>
      intro j g d6 d7 d8 hj sg f1 f2
      have S' := sg.SK S
      have hr' := hr.keep (sg.D (by decide))
      obtain ⟨q1, q2, q3, pa, ea, q4, q5, q6, q7, q8, q9, q10, q11, q12, q13⟩ := id hr'
      have q12' : zN g ea = bkn s2.2 := q12
      refine V120L (b2 := ea) S' ?_ ?_ ?_ ?_ ?_ ?_ <;> simp (disch := omega) only [oi_l, oi_n, z_nI, nIA, nIM, nIS, nIlt, nIle, nIeq, nIC, vpI, Nat.add_sub_cancel, Nat.not_le, Nat.not_lt, Nat.not_lt_zero, Nat.le_refl, not_true_eq_false, not_false_eq_true, false_imp_iff, true_imp_iff, forall_const, implies_true, Nat.reduceEqDiff, Nat.reduceLeDiff, Nat.reduceLT, q2, q9, q11, q12', and_self, show ¬ bkn s2.2 ≤ j by omega] <;> (try omega)
      refine c59 S' hr' ok2 (by omega) (V120a S' q2 (c58 S' hr' ok2 (by omega) ?_))
      have e1 := f1 j (Nat.le_refl _)
      have e2 := f2 (j + 1) (by omega) (by omega)
      have hj8 := hb j
      have key : ∀ v, v = fA l1 s2.2 (i + 1) (j + 1) → ∀ d6 d7 d8, WP 120 21 [some (.ref 0), some (.int (nI (bkc l1 i))), some (.int (nI (bkm l1 i))), some (.ref r), some (.int (fA l1 s2.2 i (j + 1))), some (.int (nI (j + 1))), d6, d7, d8] [] (yI g 33 (j + 1) v) Q := by
        intro v hv d6 d7 d8
        refine ih (j + 1) _ d6 d7 d8 (by omega) (sg.I 33 _ _ (by decide)) (fun t ht => ?_) (fun t ht ht2 => ?_)
        · simp only [zI_yI, va_upA, if_true]
          by_cases ht' : t = j + 1
          · rw [if_pos ht', ht', hv]
          · rw [if_neg ht']; exact f1 t (by omega)
        · simp only [zI_yI, va_upA, if_true]
          rw [if_neg (by omega)]; exact f2 t (by omega) ht2
      by_cases hc : bkc l1 i = bkc s2.2 j
      · refine V120b  S' ?_ ?_ ?_ ?_ ?_ ?_ <;> simp (disch := omega) only [oi_l, oi_n, z_nI, nIA, nIM, nIS, nIlt, nIle, nIeq, nIC, vpI, Nat.add_sub_cancel, Nat.not_le, Nat.not_lt, Nat.not_lt_zero, Nat.le_refl, not_true_eq_false, not_false_eq_true, false_imp_iff, true_imp_iff, forall_const, implies_true, Nat.reduceEqDiff, Nat.reduceLeDiff, Nat.reduceLT, eq_true hc, e1, e2] <;> (try omega)
        refine key _ ?_ _ _ _
        show _ = mnI (fA l1 s2.2 i j + fT l1 s2.2 i j) (mnI (fA l1 s2.2 i (j + 1) + nI (bkm l1 i)) (fA l1 s2.2 (i + 1) j + nI (bkm s2.2 j)))
        unfold fT
        rw [if_pos hc, show ∀ x : Int32, x + nI 0 = x from fun x => Int32.add_zero x]
      · refine V120b  S' ?_ ?_ ?_ ?_ ?_ ?_ <;> simp (disch := omega) only [oi_l, oi_n, z_nI, nIA, nIM, nIS, nIlt, nIle, nIeq, nIC, vpI, Nat.add_sub_cancel, Nat.not_le, Nat.not_lt, Nat.not_lt_zero, Nat.le_refl, not_true_eq_false, not_false_eq_true, false_imp_iff, true_imp_iff, forall_const, implies_true, Nat.reduceEqDiff, Nat.reduceLeDiff, Nat.reduceLT, hc, e1, e2] <;> (try omega)
        refine key _ ?_ _ _ _
        show _ = mnI (fA l1 s2.2 i j + fT l1 s2.2 i j) (mnI (fA l1 s2.2 i (j + 1) + nI (bkm l1 i)) (fA l1 s2.2 (i + 1) j + nI (bkm s2.2 j)))
        unfold fT
        rw [if_neg hc, Int32.add_assoc]
  have e0 := e33 0 (Nat.zero_le _)
  refine V120  S ?_ ?_ <;> simp (disch := omega) only [oi_l, oi_n, z_nI, nIA, nIM, nIS, nIlt, nIle, nIeq, nIC, vpI, Nat.add_sub_cancel, Nat.not_le, Nat.not_lt, Nat.not_lt_zero, Nat.le_refl, not_true_eq_false, not_false_eq_true, false_imp_iff, true_imp_iff, forall_const, implies_true, Nat.reduceEqDiff, Nat.reduceLeDiff, Nat.reduceLT, e0] <;> (try omega)
  refine L _ 0 _ none none none (Nat.zero_add _) (Same.rf.I 33 _ _ (by decide)) (fun t ht => ?_) (fun t ht ht2 => ?_)
  · obtain rfl : t = 0 := by omega
    simp only [zI_yI, va_upA, if_true]
    rfl
  · simp only [zI_yI, va_upA, if_true]
    rw [if_neg (by omega)]; exact e33 t ht2
/-- leastCost -/
theorem c119 {p r : Nat} {s1 s2 : BkS} (S : SK h) (hp : atS h p s1) (hr : atS h r s2) (ok1 : okS s1.2) (ok2 : okS s2.2) (k0 : ∀ g, Same [33] h g → Q (some (.int (fA s1.2 s2.2 (bkn s1.2) (bkn s2.2)))) g) : WP 119 0 [some (.ref 0), some (.ref p), some (.ref r), none, none] [] h Q := by
  obtain ⟨a1, a2, a3, a4, a5⟩ := bk_al ok2.1
  obtain ⟨c1, c2, c3, c4, c5⟩ := bk_al ok1.1
  have l2 := ok2.2.1
  have l1 := ok1.2.1
  have M : ∀ m i (g : pm_H), i + m = bkn s1.2 → Same [33] h g → (∀ t, t ≤ bkn s2.2 → zI g 33 t = fA s1.2 s2.2 i t) → WP 119 54 [some (.ref 0), some (.ref p), some (.ref r), some (.int (nI (bkn s2.2))), some (.int (nI i))] [] g Q := by
    intro m
    induction m with
    | zero =>
      intro i g hi sg f
      have S' := sg.SK S
      obtain ⟨q1, q2, q3, pa, ea, q4, q5, q6, q7, q8, q9, q10, q11, q12, q13⟩ := hp.keep (sg.D (by decide))
      have q12' : zN g ea = bkn s1.2 := q12
      obtain rfl : i = bkn s1.2 := by omega
      have e := f _ (Nat.le_refl _)
      refine V119M (b2 := ea) S' ?_ ?_ ?_ ?_ ?_ ?_ ?_ <;> simp (disch := omega) only [oi_l, oi_n, z_nI, nIA, nIM, nIS, nIlt, nIle, nIeq, nIC, vpI, Nat.add_sub_cancel, Nat.not_le, Nat.not_lt, Nat.not_lt_zero, Nat.le_refl, not_true_eq_false, not_false_eq_true, false_imp_iff, true_imp_iff, forall_const, implies_true, Nat.reduceEqDiff, Nat.reduceLeDiff, Nat.reduceLT, q2, q9, q11, q12', e, and_self] <;> first | omega | exact k0 g sg
    | succ m ih =>
      intro i g hi sg f
      have S' := sg.SK S
      have hp' := hp.keep (sg.D (by decide))
      have hr' := hr.keep (sg.D (by decide))
      obtain ⟨q1, q2, q3, pa, ea, q4, q5, q6, q7, q8, q9, q10, q11, q12, q13⟩ := id hp'
      have q12' : zN g ea = bkn s1.2 := q12
      refine V119M (b2 := ea) S' ?_ ?_ ?_ ?_ ?_ ?_ ?_ <;> simp (disch := omega) only [oi_l, oi_n, z_nI, nIA, nIM, nIS, nIlt, nIle, nIeq, nIC, vpI, Nat.add_sub_cancel, Nat.not_le, Nat.not_lt, Nat.not_lt_zero, Nat.le_refl, not_true_eq_false, not_false_eq_true, false_imp_iff, true_imp_iff, forall_const, implies_true, Nat.reduceEqDiff, Nat.reduceLeDiff, Nat.reduceLT, q2, q9, q11, q12', and_self, show ¬ bkn s1.2 ≤ i by omega] <;> (try omega)
      refine c58 S' hp' ok1 (by omega) (V119b S' q2 (c59 S' hp' ok1 (by omega) (V119c S' (c120 S' hr' ok1 ok2 f (fun g2 s2' f' => ?_)))))
      have s3 : Same [33] h g2 := (sg.tr s2').sub (by decide)
      refine V119d (s3.SK S) ?_
      simp (disch := omega) only [oi_l, oi_n, z_nI, nIA, nIM, nIS, nIlt, nIle, nIeq, nIC, vpI, Nat.add_sub_cancel, Nat.not_le, Nat.not_lt, Nat.not_lt_zero, Nat.le_refl, not_true_eq_false, not_false_eq_true, false_imp_iff, true_imp_iff, forall_const, implies_true, Nat.reduceEqDiff, Nat.reduceLeDiff, Nat.reduceLT]
      exact ih (i + 1) g2 (by omega) s3 f'
  have L : ∀ m j (g : pm_H), j + m = bkn s2.2 → Same [33] h g → (∀ t, t ≤ j → zI g 33 t = fA s1.2 s2.2 0 t) → WP 119 16 [some (.ref 0), some (.ref p), some (.ref r), some (.int (nI (bkn s2.2))), some (.int (nI j))] [] g Q := by
    intro m
    induction m with
    | zero =>
      intro j g hj sg f
      have S' := sg.SK S
      obtain rfl : j = bkn s2.2 := by omega
      have M' := M _ 0 g (Nat.zero_add _) sg f
      refine V119L  S' ?_ ?_ ?_ ?_ <;> simp (disch := omega) only [oi_l, oi_n, z_nI, nIA, nIM, nIS, nIlt, nIle, nIeq, nIC, vpI, Nat.add_sub_cancel, Nat.not_le, Nat.not_lt, Nat.not_lt_zero, Nat.le_refl, not_true_eq_false, not_false_eq_true, false_imp_iff, true_imp_iff, forall_const, implies_true, Nat.reduceEqDiff, Nat.reduceLeDiff, Nat.reduceLT]
      exact M'
    | succ m ih =>
      intro j g hj sg f
      have S' := sg.SK S
      have hr' := hr.keep (sg.D (by decide))
      have e := f j (Nat.le_refl _)
      refine V119L  S' ?_ ?_ ?_ ?_ <;> simp (disch := omega) only [oi_l, oi_n, z_nI, nIA, nIM, nIS, nIlt, nIle, nIeq, nIC, vpI, Nat.add_sub_cancel, Nat.not_le, Nat.not_lt, Nat.not_lt_zero, Nat.le_refl, not_true_eq_false, not_false_eq_true, false_imp_iff, true_imp_iff, forall_const, implies_true, Nat.reduceEqDiff, Nat.reduceLeDiff, Nat.reduceLT, hr'.2.1, e, show ¬ bkn s2.2 ≤ j by omega] <;> (try omega)
      refine c59 S' hr' ok2 (by omega) ?_
      refine V119a  S' ?_ ?_ <;> simp (disch := omega) only [oi_l, oi_n, z_nI, nIA, nIM, nIS, nIlt, nIle, nIeq, nIC, vpI, Nat.add_sub_cancel, Nat.not_le, Nat.not_lt, Nat.not_lt_zero, Nat.le_refl, not_true_eq_false, not_false_eq_true, false_imp_iff, true_imp_iff, forall_const, implies_true, Nat.reduceEqDiff, Nat.reduceLeDiff, Nat.reduceLT] <;> (try omega)
      refine ih (j + 1) _ (by omega) (sg.I 33 _ _ (by decide)) (fun t ht => ?_)
      simp only [zI_yI, va_upA, if_true]
      by_cases ht' : t = j + 1
      · rw [if_pos ht', ht']; rfl
      · rw [if_neg ht']; exact f t (by omega)
  obtain ⟨q1, q2, q3, pa, ea, q4, q5, q6, q7, q8, q9, q10, q11, q12, q13⟩ := id hr
  have q12' : zN h ea = bkn s2.2 := q12
  refine V119 (b2 := ea) S ?_ ?_ ?_ ?_ ?_ <;> simp (disch := omega) only [oi_l, oi_n, z_nI, nIA, nIM, nIS, nIlt, nIle, nIeq, nIC, vpI, Nat.add_sub_cancel, Nat.not_le, Nat.not_lt, Nat.not_lt_zero, Nat.le_refl, not_true_eq_false, not_false_eq_true, false_imp_iff, true_imp_iff, forall_const, implies_true, Nat.reduceEqDiff, Nat.reduceLeDiff, Nat.reduceLT, q2, q9, q11, q12', and_self] <;> (try omega)
  refine L _ 0 _ (Nat.zero_add _) (Same.rf.I 33 _ _ (by decide)) (fun t ht => ?_)
  obtain rfl : t = 0 := by omega
  simp only [zI_yI, va_upA, if_true]
  rfl
end FAR

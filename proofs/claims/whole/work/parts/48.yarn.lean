theorem V99 {h : pm_H} {Q : Option Value → pm_H → Prop} {x1 : Int32} {x2 : Int32} {d3 : Option Value} {b1 : Nat} (S : SK h) (e2 : zR h 0 2 = some b1) (t3 : zT h b1 = 2) (k4 : WP 15 0 [some (.ref b1), some (.int x1)] [] h (fun v1 h1 => WP 99 8 [some (.ref 0), some (.int x1), some (.int x2), d3] (v1.toList ++ []) h1 Q)) : WP 99 0 [some (.ref 0), some (.int x1), some (.int x2), d3] [] h Q :=
  B99_0 (S.T 0) e2 t3 k4
theorem V99n {h : pm_H} {Q : Option Value → pm_H → Prop} {x1 : Int32} {x2 : Int32} {d3 : Option Value} (S : SK h) (k1 : Q (some (.int (Int32.ofInt (-1)))) (yI h 0 0 (Int32.ofInt 1))) : WP 99 8 [some (.ref 0), some (.int x1), some (.int x2), d3] [.null] h Q :=
  B99_8n (B99_13 (S.T 0) (B107_0 (S.T 0) (B99_18 k1)))
theorem V99r {h : pm_H} {Q : Option Value → pm_H → Prop} {x1 : Int32} {x2 : Int32} {r9 : Nat} {d3 : Option Value} (S : SK h) (k3 : (x2 < 0) → Q (some (.int (Int32.ofInt (-1)))) (yI h 0 0 (Int32.ofInt 2))) (k6 : (¬ x2 < 0) → (x2 < (Int32.ofInt 8)) → WP 117 0 [some (.ref 0), some (.ref r9), some (.int x2), none] [] h (fun v1 h1 => WP 99 39 [some (.ref 0), some (.int x1), some (.int x2), some (.ref r9)] (v1.toList ++ [.ref 0]) h1 Q)) (k8 : (¬ x2 < 0) → (¬ x2 < (Int32.ofInt 8)) → Q (some (.int (Int32.ofInt (-1)))) (yI h 0 0 (Int32.ofInt 2))) : WP 99 8 [some (.ref 0), some (.int x1), some (.int x2), d3] [.ref r9] h Q :=
  B99_8 (B99_19 (B110_0 (fun c1 => B110_10 (B110_15 oi1 (B99_23 (fun q => absurd q (by decide)) (fun _ => B99_26 (S.T 0) (B107_0 (S.T 0) (B99_31 (k3 c1))))))) (fun c1 => B110_4 (fun c4 => B110_14 (B110_15 oi0 (B99_23 (fun _ => B99_32 (S.T 0) (k6 c1 c4)) (fun q => absurd (by decide) q)))) (fun c4 => B110_10 (B110_15 oi1 (B99_23 (fun q => absurd q (by decide)) (fun _ => B99_26 (S.T 0) (B107_0 (S.T 0) (B99_31 (k8 c1 c4))))))))))
theorem V99s {h : pm_H} {Q : Option Value → pm_H → Prop} {x1 : Int32} {x2 : Int32} {p : Nat} {x3 : Int32} (S : SK h) (k1 : Q (some (.int x3)) (yI h 0 0 (Int32.ofInt 0))) : WP 99 39 [some (.ref 0), some (.int x1), some (.int x2), some (.ref p)] [.int x3, .ref 0] h Q :=
  B99_39 (S.T 0) (B106_0 (S.T 0) (B99_42 k1))
theorem V117 {h : pm_H} {Q : Option Value → pm_H → Prop} {p : Nat} {x2 : Int32} {d3 : Option Value} (S : SK h) (t1 : zT h p = 9) (k2 : WP 60 0 [some (.ref p), some (.int x2), none, none] [] h (fun v1 h1 => WP 117 5 [some (.ref 0), some (.ref p), some (.int x2), d3] (v1.toList ++ []) h1 Q)) : WP 117 0 [some (.ref 0), some (.ref p), some (.int x2), d3] [] h Q :=
  B117_0 t1 k2
theorem V117r {h : pm_H} {Q : Option Value → pm_H → Prop} {p : Nat} {x2 : Int32} {x3 : Int32} {d3 : Option Value} (S : SK h) (k1 : Q (some (.int ((((x3 * (zI h 0 11)) * ((Int32.ofInt 100) + (zI h 0 12))) + (Int32.ofInt 99)) / (Int32.ofInt 100)))) h) : WP 117 5 [some (.ref 0), some (.ref p), some (.int x2), d3] [.int x3] h Q :=
  B117_5 (S.T 0) (by decide) k1
theorem V60 {h : pm_H} {Q : Option Value → pm_H → Prop} {p : Nat} {x1 : Int32} {d2 : Option Value} {d3 : Option Value} (S : SK h) (k1 : WP 60 4 [some (.ref p), some (.int x1), some (.int (Int32.ofInt 0)), some (.int (Int32.ofInt 0))] [] h Q) : WP 60 0 [some (.ref p), some (.int x1), d2, d3] [] h Q :=
  B60_0 (k1)
theorem V60L {h : pm_H} {Q : Option Value → pm_H → Prop} {p : Nat} {x1 : Int32} {n : Nat} {k : Nat} {b2 : Nat} (S : SK h) (t1 : zT h p = 9) (e3 : zR h p 1 = some b2) (g4 : 100 ≤ zT h b2 ∧ zT h b2 ≤ 105) (k6 : ((Int32.ofInt (zN h b2)) ≤ (nI k)) → Q (some (.int (nI n))) h) (t7 : (¬ (Int32.ofInt (zN h b2)) ≤ (nI k)) → zT h p = 9) (t8 : (¬ (Int32.ofInt (zN h b2)) ≤ (nI k)) → zT h b2 = 101) (g9 : (¬ (Int32.ofInt (zN h b2)) ≤ (nI k)) → vp_in (nI k) (zN h b2)) (k11 : (¬ (Int32.ofInt (zN h b2)) ≤ (nI k)) → (¬ (zI h b2 ((nI k)).toNatClampNeg) = x1) → WP 60 4 [some (.ref p), some (.int x1), some (.int (nI n)), some (.int ((nI k) + (Int32.ofInt 1)))] [] h Q) (k12 : (¬ (Int32.ofInt (zN h b2)) ≤ (nI k)) → ((zI h b2 ((nI k)).toNatClampNeg) = x1) → WP 60 4 [some (.ref p), some (.int x1), some (.int ((nI n) + (Int32.ofInt 1))), some (.int ((nI k) + (Int32.ofInt 1)))] [] h Q) : WP 60 4 [some (.ref p), some (.int x1), some (.int (nI n)), some (.int (nI k))] [] h Q :=
  B60_4 t1 e3 g4 (fun c5 => B60_32 (k6 c5)) (fun c5 => B60_13 (t7 c5) e3 ⟨(t8 c5), (g9 c5)⟩ (fun c10 => B60_26 (k11 c5 c10)) (fun c10 => B60_23 (B60_26 (k12 c5 c10))))
theorem V167 {h : pm_H} {Q : Option Value → pm_H → Prop} {x1 : Int32} {x2 : Int32} {d3 : Option Value} {d4 : Option Value} (S : SK h) (k1 : WP 167 5 [some (.ref 35), some (.int x1), some (.int x2), some (.int (Int32.ofInt 0)), some (.int (Int32.ofInt 0))] [] h Q) : WP 167 0 [some (.ref 35), some (.int x1), some (.int x2), d3, d4] [] h Q :=
  B167_0 (k1)
theorem V167L {h : pm_H} {Q : Option Value → pm_H → Prop} {x1 : Int32} {x2 : Int32} {n : Nat} {k : Nat} (S : SK h) (g1 : vp_in x1 12) (k3 : ((zI h 38 (x1).toNatClampNeg) ≤ (nI k)) → Q (some (.int (((((nI n) * (zI h 35 37)) * ((Int32.ofInt 100) + (zI h 35 38))) + (Int32.ofInt 99)) / (Int32.ofInt 100)))) h) (g4 : (¬ (zI h 38 (x1).toNatClampNeg) ≤ (nI k)) → vp_in (((Int32.ofInt 400) * x1) + (nI k)) 4800) (k6 : (¬ (zI h 38 (x1).toNatClampNeg) ≤ (nI k)) → (¬ (zI h 45 ((((Int32.ofInt 400) * x1) + (nI k))).toNatClampNeg) = x2) → WP 167 5 [some (.ref 35), some (.int x1), some (.int x2), some (.int ((nI n) + (Int32.ofInt 0))), some (.int ((nI k) + (Int32.ofInt 1)))] [] h Q) (k7 : (¬ (zI h 38 (x1).toNatClampNeg) ≤ (nI k)) → ((zI h 45 ((((Int32.ofInt 400) * x1) + (nI k))).toNatClampNeg) = x2) → WP 167 5 [some (.ref 35), some (.int x1), some (.int x2), some (.int ((nI n) + (Int32.ofInt 1))), some (.int ((nI k) + (Int32.ofInt 1)))] [] h Q) : WP 167 5 [some (.ref 35), some (.int x1), some (.int x2), some (.int (nI n)), some (.int (nI k))] [] h Q :=
  B167_5 (S.T 35) (S.R 35 20) ⟨(S.T 38), (S.bd 38 g1)⟩ (fun c2 => B167_47 (S.T 35) (by decide) (k3 c2)) (fun c2 => B167_16 (S.T 35) (S.R 35 27) ⟨(S.T 45), (S.bd 45 (g4 c2))⟩ (fun c5 => B167_38 (B167_39 (k6 c2 c5))) (fun c5 => B167_34 (B167_39 (k7 c2 c5))))
theorem V168 {h : pm_H} {Q : Option Value → pm_H → Prop} {x1 : Int32} {x2 : Int32} (S : SK h) (k3 : (x1 < 0) → Q (some (.int (Int32.ofInt (-1)))) (yI (yI (yI h 35 1 (Int32.ofInt 0)) 35 0 (Int32.ofInt 0)) 35 0 (Int32.ofInt 1))) (k6 : (¬ x1 < 0) → ((zI h 35 15) ≤ x1) → Q (some (.int (Int32.ofInt (-1)))) (yI (yI (yI h 35 1 (Int32.ofInt 0)) 35 0 (Int32.ofInt 0)) 35 0 (Int32.ofInt 1))) (k10 : (¬ x1 < 0) → (¬ (zI h 35 15) ≤ x1) → (x2 < 0) → Q (some (.int (Int32.ofInt (-1)))) (yI (yI (yI h 35 1 (Int32.ofInt 0)) 35 0 (Int32.ofInt 0)) 35 0 (Int32.ofInt 2))) (k13 : (¬ x1 < 0) → (¬ (zI h 35 15) ≤ x1) → (¬ x2 < 0) → ((Int32.ofInt 8) ≤ x2) → Q (some (.int (Int32.ofInt (-1)))) (yI (yI (yI h 35 1 (Int32.ofInt 0)) 35 0 (Int32.ofInt 0)) 35 0 (Int32.ofInt 2))) (k15 : (¬ x1 < 0) → (¬ (zI h 35 15) ≤ x1) → (¬ x2 < 0) → (¬ (Int32.ofInt 8) ≤ x2) → WP 167 0 [some (.ref 35), some (.int x1), some (.int x2), none, none] [] (yI (yI h 35 1 (Int32.ofInt 0)) 35 0 (Int32.ofInt 0)) (fun v1 h1 => WP 168 37 [some (.ref 35), some (.int x1), some (.int x2)] (v1.toList ++ []) h1 Q)) : WP 168 0 [some (.ref 35), some (.int x1), some (.int x2)] [] h Q :=
  B168_0 (S.T 35) (B147_0 (fun c1 => B147_16 (B147_17 oi0 (B168_15 (fun q => absurd (by decide) q) (fun _ => B168_18 (S.T 35) (B123_0 (S.T 35) (B168_23 (k3 c1))))))) (fun c1 => B147_4 (S.T 35) (fun c4 => B147_16 (B147_17 oi0 (B168_15 (fun q => absurd (by decide) q) (fun _ => B168_18 (S.T 35) (B123_0 (S.T 35) (B168_23 (k6 c1 c4))))))) (fun c4 => B147_12 (B147_17 oi1 (B168_15 (fun _ => B168_24 (B166_0 (fun c8 => B166_14 (B166_15 oi0 (B168_28 (fun _ => B168_40 (S.T 35) (B123_0 (S.T 35) (B168_45 (k10 c1 c4 c8)))) (fun q => absurd (by decide) q)))) (fun c8 => B166_4 (fun c11 => B166_14 (B166_15 oi0 (B168_28 (fun _ => B168_40 (S.T 35) (B123_0 (S.T 35) (B168_45 (k13 c1 c4 c8 c11)))) (fun q => absurd (by decide) q)))) (fun c11 => B166_10 (B166_15 oi1 (B168_28 (fun q => absurd q (by decide)) (fun _ => B168_31 (S.T 35) (k15 c1 c4 c8 c11)))))))) (fun q => absurd q (by decide)))))))
theorem V168r {h : pm_H} {Q : Option Value → pm_H → Prop} {x1 : Int32} {x2 : Int32} {x3 : Int32} (S : SK h) (k1 : Q (some (.int x3)) h) : WP 168 37 [some (.ref 35), some (.int x1), some (.int x2)] [.int x3] h Q :=
  B168_37 (B168_45 k1)
theorem nID {a b : Nat} (ha : a < 2147483648) (hb : b < 2147483648) : nI a / nI b = nI (a / b) := by
  have hq : a / b ≤ a := Nat.div_le_self a b
  apply Int32.toInt_inj.mp
  rw [Int32.toInt_div, nI_i ha, nI_i hb, nI_i (by omega), ← Int.ofNat_tdiv]
  have hq0 : (0 : Int) ≤ ((a / b : Nat) : Int) := Int.natCast_nonneg _
  exact Int.bmod_eq_of_le (by omega) (by omega)
/-- how many of the first k are of a colour -/
def cnt (l : List Nat) (c : Nat) : Nat → Nat
  | 0 => 0
  | k + 1 => cnt l c k + if l.getD k 0 = c then 1 else 0
theorem cnt_le (l : List Nat) (c : Nat) : ∀ k, cnt l c k ≤ k
  | 0 => Nat.le_refl _
  | k + 1 => by
    have := cnt_le l c k
    unfold cnt
    split <;> omega
def yrn (n w u : Nat) : Nat := (n * w * (100 + u) + 99) / 100
theorem yrn_b {n w u : Nat} (hn : n ≤ 400) (hw : w ≤ 500) (hu : u ≤ 50) : n * w * (100 + u) ≤ 30000000 := Nat.mul_le_mul (Nat.mul_le_mul hn hw) (show 100 + u ≤ 150 by omega)
theorem yrn_b2 {n w u : Nat} (hn : n ≤ 400) (hw : w ≤ 500) (hu : u ≤ 50) : yrn n w u ≤ 300000 := by
  have := yrn_b hn hw hu
  unfold yrn
  omega
section YARN
variable {h : pm_H} {Q : Option Value → pm_H → Prop} {l : List Nat} {c : Nat}
theorem c60L (S : SK h) {p pa : Nat} (t1 : zT h p = 9) (t2 : zR h p 1 = some pa) (t3 : zT h pa = 101) (t4 : zN h pa = l.length) (t5 : ∀ k, k < l.length → zI h pa k = nI (l.getD k 0)) (hl : l.length ≤ 400) (hc : c < 8) (h8 : ∀ k, l.getD k 0 < 8) (k0 : Q (some (.int (nI (cnt l c l.length)))) h) :
    ∀ m k, k + m = l.length → WP 60 4 [some (.ref p), some (.int (nI c)), some (.int (nI (cnt l c k))), some (.int (nI k))] [] h Q := by
  intro m
  induction m with
  | zero =>
    intro k hk
    obtain rfl : k = l.length := by omega
    refine V60L (b2 := pa) S ?_ ?_ ?_ ?_ ?_ ?_ ?_ ?_ ?_ <;> simp (disch := omega) only [oi_l, oi_n, z_nI, nIA, nIM, nIS, nIlt, nIle, nIeq, nIC, vpI, Nat.add_sub_cancel, Nat.not_le, Nat.not_lt, Nat.not_lt_zero, Nat.le_refl, not_true_eq_false, not_false_eq_true, false_imp_iff, true_imp_iff, forall_const, implies_true, Nat.reduceEqDiff, Nat.reduceLeDiff, Nat.reduceLT, t1, t2, t3, t4, Nat.reduceLeDiff, and_self, implies_true]
    exact k0
  | succ m ih =>
    intro k hk
    have e := t5 k (by omega)
    have h1 := h8 k
    have hkl : ¬ l.length ≤ k := by omega
    have h2 := cnt_le l c k
    have ih' := ih (k + 1) (by omega)
    unfold cnt at ih'
    by_cases hq : l.getD k 0 = c
    · rw [if_pos hq] at ih'
      refine V60L (b2 := pa) S ?_ ?_ ?_ ?_ ?_ ?_ ?_ ?_ ?_ <;> simp (disch := omega) only [oi_l, oi_n, z_nI, nIA, nIM, nIS, nIlt, nIle, nIeq, nIC, vpI, Nat.add_sub_cancel, Nat.not_le, Nat.not_lt, Nat.not_lt_zero, Nat.le_refl, not_true_eq_false, not_false_eq_true, false_imp_iff, true_imp_iff, forall_const, implies_true, Nat.reduceEqDiff, Nat.reduceLeDiff, Nat.reduceLT, t1, t2, t3, t4, e, hkl, hq, Nat.reduceLeDiff, and_self, implies_true] <;> first | omega | exact ih'
    · rw [if_neg hq] at ih'
      refine V60L (b2 := pa) S ?_ ?_ ?_ ?_ ?_ ?_ ?_ ?_ ?_ <;> simp (disch := omega) only [oi_l, oi_n, z_nI, nIA, nIM, nIS, nIlt, nIle, nIeq, nIC, vpI, Nat.add_sub_cancel, Nat.not_le, Nat.not_lt, Nat.not_lt_zero, Nat.le_refl, not_true_eq_false, not_false_eq_true, false_imp_iff, true_imp_iff, forall_const, implies_true, Nat.reduceEqDiff, Nat.reduceLeDiff, Nat.reduceLT, t1, t2, t3, t4, e, hkl, hq, Nat.reduceLeDiff, and_self, implies_true] <;> first | omega | exact ih'
/-- yarnFor -/
theorem c117 (S : SK h) {p : Nat} {s : BkS} (hp : atS h p s) (hl : s.2.length ≤ 400) (h8 : ∀ k, s.2.getD k 0 < 8) (hc : c < 8) {w u : Nat} (hw : w ≤ 500) (hu : u ≤ 50) (e11 : zI h 0 11 = nI w) (e12 : zI h 0 12 = nI u) (k0 : Q (some (.int (nI (yrn (cnt s.2 c s.2.length) w u)))) h) : WP 117 0 [some (.ref 0), some (.ref p), some (.int (nI c)), none] [] h Q := by
  obtain ⟨q1, q2, q3, pa, ea, q4, q5, q6, q7, q8, -⟩ := hp
  have hn := cnt_le s.2 c s.2.length
  have hb := yrn_b (n := cnt s.2 c s.2.length) (by omega) hw hu
  refine V117 S q2 (V60 S (c60L S q2 q4 q6 q7 q8 hl hc h8 ?_ s.2.length 0 (by omega)))
  refine V117r S ?_
  simp (disch := omega) only [oi_l, oi_n, z_nI, nIA, nIM, nIS, nIlt, nIle, nIeq, nIC, vpI, Nat.add_sub_cancel, Nat.not_le, Nat.not_lt, Nat.not_lt_zero, Nat.le_refl, not_true_eq_false, not_false_eq_true, false_imp_iff, true_imp_iff, forall_const, implies_true, Nat.reduceEqDiff, Nat.reduceLeDiff, Nat.reduceLT, e11, e12, nID]
  exact k0
theorem c167 (S : SK h) {s : Nat} (hs : s < 12) (e38 : zI h 38 s = nI l.length) (e45 : ∀ k, k < l.length → zI h 45 (400 * s + k) = nI (l.getD k 0)) (hl : l.length ≤ 400) (h8 : ∀ k, l.getD k 0 < 8) (hc : c < 8) {w u : Nat} (hw : w ≤ 500) (hu : u ≤ 50) (e37 : zI h 35 37 = nI w) (e38' : zI h 35 38 = nI u) (k0 : Q (some (.int (nI (yrn (cnt l c l.length) w u)))) h) : WP 167 0 [some (.ref 35), some (.int (nI s)), some (.int (nI c)), none, none] [] h Q := by
  have L : ∀ m k, k + m = l.length → WP 167 5 [some (.ref 35), some (.int (nI s)), some (.int (nI c)), some (.int (nI (cnt l c k))), some (.int (nI k))] [] h Q := by
    intro m
    induction m with
    | zero =>
      intro k hk
      obtain rfl : k = l.length := by omega
      have hn := cnt_le l c l.length
      have hb := yrn_b (n := cnt l c l.length) (by omega) hw hu
      refine V167L  S ?_ ?_ ?_ ?_ ?_ <;> simp (disch := omega) only [oi_l, oi_n, z_nI, nIA, nIM, nIS, nIlt, nIle, nIeq, nIC, vpI, Nat.add_sub_cancel, Nat.not_le, Nat.not_lt, Nat.not_lt_zero, Nat.le_refl, not_true_eq_false, not_false_eq_true, false_imp_iff, true_imp_iff, forall_const, implies_true, Nat.reduceEqDiff, Nat.reduceLeDiff, Nat.reduceLT, e38, e37, e38', nID] <;> (try omega)
      exact k0
    | succ m ih =>
      intro k hk
      have e := e45 k (by omega)
      have h1 := h8 k
      have hkl : ¬ l.length ≤ k := by omega
      have h2 := cnt_le l c k
      have ih' := ih (k + 1) (by omega)
      unfold cnt at ih'
      by_cases hq : l.getD k 0 = c
      · rw [if_pos hq] at ih'
        refine V167L  S ?_ ?_ ?_ ?_ ?_ <;> simp (disch := omega) only [oi_l, oi_n, z_nI, nIA, nIM, nIS, nIlt, nIle, nIeq, nIC, vpI, Nat.add_sub_cancel, Nat.not_le, Nat.not_lt, Nat.not_lt_zero, Nat.le_refl, not_true_eq_false, not_false_eq_true, false_imp_iff, true_imp_iff, forall_const, implies_true, Nat.reduceEqDiff, Nat.reduceLeDiff, Nat.reduceLT, e38, e, hkl, hq] <;> first | omega | exact ih'
      · rw [if_neg hq] at ih'
        refine V167L  S ?_ ?_ ?_ ?_ ?_ <;> simp (disch := omega) only [oi_l, oi_n, z_nI, nIA, nIM, nIS, nIlt, nIle, nIeq, nIC, vpI, Nat.add_sub_cancel, Nat.not_le, Nat.not_lt, Nat.not_lt_zero, Nat.le_refl, not_true_eq_false, not_false_eq_true, false_imp_iff, true_imp_iff, forall_const, implies_true, Nat.reduceEqDiff, Nat.reduceLeDiff, Nat.reduceLT, e38, e, hkl, hq] <;> first | omega | exact ih'
  exact V167 S (L l.length 0 (by omega))
end YARN
/-- YARN -/
theorem p_yarn {h : pm_H} {x1 x2 : Int32} (I : INV h) : PAIR 99 168 [.int x1, .int x2] h := by
  obtain ⟨S, n1, i1, i2, i3, i4, i5, B, bo, ⟨b, b2, hb⟩, b3⟩ := id I
  have hl := bo.1
  have m15 := b3.1
  obtain ⟨z1, z2, z3, ⟨w, w1, w2, w3⟩, ⟨u, y1, y2⟩, -⟩ := n1
  rw [w3] at z2
  rw [y2] at z3
  have S1 : ∀ v, SK (yI h 0 0 v) := fun v => ((Kp.rf.I0 0 _ rfl) : Kp false h _).SK S
  rcases i32c x1 with hx | ⟨s, hs, rfl⟩
  · refine V99 S b2 hb.2.1 (c15N S hb bo hx (V99n S ?_))
    refine V168 (S1 _) ?_ ?_ ?_ ?_ ?_ <;> simp (disch := omega) only [oi_l, oi_n, z_nI, nIA, nIM, nIS, nIlt, nIle, nIeq, nIC, vpI, Nat.add_sub_cancel, Nat.not_le, Nat.not_lt, Nat.not_lt_zero, Nat.le_refl, not_true_eq_false, not_false_eq_true, false_imp_iff, true_imp_iff, forall_const, implies_true, Nat.reduceEqDiff, Nat.reduceLeDiff, Nat.reduceLT, zI_yI, va_upA, Nat.reduceEqDiff, ↓reduceIte, ngLt hx]
    first | exact pfin I ((((Kp.rf.I0 0 _ rfl).I35 1 _ rfl).I35 0 _ rfl).I35 0 _ rfl) (by simp [zI_yI, va_upA]) | exact pfinT I ((((Kp.rf.I0 0 _ rfl).I35 1 _ rfl).I35 0 _ rfl).I35 0 _ rfl) (by simp [zI_yI, va_upA])
  by_cases hs2 : s < B.1.length
  · obtain ⟨r1, r2, r3⟩ := b3.2.2.1 s hs2
    obtain ⟨u1, u2, u3, u4⟩ := bo.2.2.1 _ (List.getElem_mem hs2)
    have hcl : ∀ k, B.1[s].2.getD k 0 < 8 := gD8 u4
    have hs3 : ¬ B.1.length ≤ s := by omega
    refine V99 S b2 hb.2.1 (c15S S hb bo hs2 (fun p hp => ?_))
    rcases i32c x2 with hy | ⟨c, hc, rfl⟩
    · refine V99r S ?_ ?_ ?_ <;> simp (disch := omega) only [oi_l, oi_n, z_nI, nIA, nIM, nIS, nIlt, nIle, nIeq, nIC, vpI, Nat.add_sub_cancel, Nat.not_le, Nat.not_lt, Nat.not_lt_zero, Nat.le_refl, not_true_eq_false, not_false_eq_true, false_imp_iff, true_imp_iff, forall_const, implies_true, Nat.reduceEqDiff, Nat.reduceLeDiff, Nat.reduceLT, ngLt hy]
      refine V168 (S1 _) ?_ ?_ ?_ ?_ ?_ <;> simp (disch := omega) only [oi_l, oi_n, z_nI, nIA, nIM, nIS, nIlt, nIle, nIeq, nIC, vpI, Nat.add_sub_cancel, Nat.not_le, Nat.not_lt, Nat.not_lt_zero, Nat.le_refl, not_true_eq_false, not_false_eq_true, false_imp_iff, true_imp_iff, forall_const, implies_true, Nat.reduceEqDiff, Nat.reduceLeDiff, Nat.reduceLT, zI_yI, va_upA, Nat.reduceEqDiff, ↓reduceIte, m15, hs3, ngLt hy]
      first | exact pfin I ((((Kp.rf.I0 0 _ rfl).I35 1 _ rfl).I35 0 _ rfl).I35 0 _ rfl) (by simp [zI_yI, va_upA]) | exact pfinT I ((((Kp.rf.I0 0 _ rfl).I35 1 _ rfl).I35 0 _ rfl).I35 0 _ rfl) (by simp [zI_yI, va_upA])
    by_cases hc8 : c < 8
    · refine V99r S ?_ ?_ ?_ <;> simp (disch := omega) only [oi_l, oi_n, z_nI, nIA, nIM, nIS, nIlt, nIle, nIeq, nIC, vpI, Nat.add_sub_cancel, Nat.not_le, Nat.not_lt, Nat.not_lt_zero, Nat.le_refl, not_true_eq_false, not_false_eq_true, false_imp_iff, true_imp_iff, forall_const, implies_true, Nat.reduceEqDiff, Nat.reduceLeDiff, Nat.reduceLT, hc8]
      refine c117 S hp u3 hcl hc8 w2 y1 w3 y2 (V99s S ?_)
      refine V168 (S1 _) ?_ ?_ ?_ ?_ ?_ <;> simp (disch := omega) only [oi_l, oi_n, z_nI, nIA, nIM, nIS, nIlt, nIle, nIeq, nIC, vpI, Nat.add_sub_cancel, Nat.not_le, Nat.not_lt, Nat.not_lt_zero, Nat.le_refl, not_true_eq_false, not_false_eq_true, false_imp_iff, true_imp_iff, forall_const, implies_true, Nat.reduceEqDiff, Nat.reduceLeDiff, Nat.reduceLT, zI_yI, va_upA, Nat.reduceEqDiff, ↓reduceIte, m15, hs3, show ¬ 8 ≤ c by omega]
      have K : Kp false h (yI (yI (yI h 0 0 (nI 0)) 35 1 (nI 0)) 35 0 (nI 0)) := (((Kp.rf.I0 0 _ rfl).I35 1 _ rfl).I35 0 _ rfl)
      refine c167 (l := B.1[s].2) (K.SK S) (by omega) (by rw [K.r 38]; exact r2) (by rw [K.r 45]; exact r3) u3 hcl hc8 w2 y1 (by rw [K.2.2.1 37 rfl]; exact z2.symm) (by rw [K.2.2.1 38 rfl]; exact z3.symm) (V168r (K.SK S) ?_)
      exact pfin I K (by simp [zI_yI, va_upA])
    · refine V99r S ?_ ?_ ?_ <;> simp (disch := omega) only [oi_l, oi_n, z_nI, nIA, nIM, nIS, nIlt, nIle, nIeq, nIC, vpI, Nat.add_sub_cancel, Nat.not_le, Nat.not_lt, Nat.not_lt_zero, Nat.le_refl, not_true_eq_false, not_false_eq_true, false_imp_iff, true_imp_iff, forall_const, implies_true, Nat.reduceEqDiff, Nat.reduceLeDiff, Nat.reduceLT, hc8]
      refine V168 (S1 _) ?_ ?_ ?_ ?_ ?_ <;> simp (disch := omega) only [oi_l, oi_n, z_nI, nIA, nIM, nIS, nIlt, nIle, nIeq, nIC, vpI, Nat.add_sub_cancel, Nat.not_le, Nat.not_lt, Nat.not_lt_zero, Nat.le_refl, not_true_eq_false, not_false_eq_true, false_imp_iff, true_imp_iff, forall_const, implies_true, Nat.reduceEqDiff, Nat.reduceLeDiff, Nat.reduceLT, zI_yI, va_upA, Nat.reduceEqDiff, ↓reduceIte, m15, hs3, show 8 ≤ c by omega]
      first | exact pfin I ((((Kp.rf.I0 0 _ rfl).I35 1 _ rfl).I35 0 _ rfl).I35 0 _ rfl) (by simp [zI_yI, va_upA]) | exact pfinT I ((((Kp.rf.I0 0 _ rfl).I35 1 _ rfl).I35 0 _ rfl).I35 0 _ rfl) (by simp [zI_yI, va_upA])
  · refine V99 S b2 hb.2.1 (c15M hs S hb bo (by omega) (V99n S ?_))
    have hs3 : B.1.length ≤ s := by omega
    refine V168 (S1 _) ?_ ?_ ?_ ?_ ?_ <;> simp (disch := omega) only [oi_l, oi_n, z_nI, nIA, nIM, nIS, nIlt, nIle, nIeq, nIC, vpI, Nat.add_sub_cancel, Nat.not_le, Nat.not_lt, Nat.not_lt_zero, Nat.le_refl, not_true_eq_false, not_false_eq_true, false_imp_iff, true_imp_iff, forall_const, implies_true, Nat.reduceEqDiff, Nat.reduceLeDiff, Nat.reduceLT, zI_yI, va_upA, Nat.reduceEqDiff, ↓reduceIte, m15, hs3]
    first | exact pfin I ((((Kp.rf.I0 0 _ rfl).I35 1 _ rfl).I35 0 _ rfl).I35 0 _ rfl) (by simp [zI_yI, va_upA]) | exact pfinT I ((((Kp.rf.I0 0 _ rfl).I35 1 _ rfl).I35 0 _ rfl).I35 0 _ rfl) (by simp [zI_yI, va_upA])

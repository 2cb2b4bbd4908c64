/-! BEST DYEING of the class: search, needs -/
theorem dig8 {N : Nat} {c : Nat → Nat} (hc : ∀ i, i < 8 → c i < 8) {x : Nat} (hx : x = 16777216 * N + su (fun _ => true) (fun p => c p * dg p) 8) : x / 16777216 = N ∧ ∀ p, p < 8 → x / 2 ^ (3 * (7 - p)) % 8 = c p := by
  have e : su (fun _ => true) (fun p => c p * dg p) 8 = c 0 * 2097152 + c 1 * 262144 + c 2 * 32768 + c 3 * 4096 + c 4 * 512 + c 5 * 64 + c 6 * 8 + c 7 := by
    simp only [su, dg, if_true]
    simp only [Nat.zero_add, Nat.reduceSub, Nat.reducePow, Nat.mul_one]
  have h0 := hc 0 (by decide)
  have h1 := hc 1 (by decide)
  have h2 := hc 2 (by decide)
  have h3 := hc 3 (by decide)
  have h4 := hc 4 (by decide)
  have h5 := hc 5 (by decide)
  have h6 := hc 6 (by decide)
  have h7 := hc 7 (by decide)
  rw [e] at hx
  refine ⟨by omega, fun p hp => ?_⟩
  have hp8 : p = 0 ∨ p = 1 ∨ p = 2 ∨ p = 3 ∨ p = 4 ∨ p = 5 ∨ p = 6 ∨ p = 7 := by omega
  rcases hp8 with rfl | rfl | rfl | rfl | rfl | rfl | rfl | rfl
  · show x / 2097152 % 8 = c 0; omega
  · show x / 262144 % 8 = c 1; omega
  · show x / 32768 % 8 = c 2; omega
  · show x / 4096 % 8 = c 3; omega
  · show x / 512 % 8 = c 4; omega
  · show x / 64 % 8 = c 5; omega
  · show x / 8 % 8 = c 6; omega
  · show x / 1 % 8 = c 7; omega
/-- all places -/
def fq (n : Nat) : Nat → Bool := Nat.testBit (2 ^ n - 1)
theorem fq_e (n p : Nat) : fq n p = decide (p < n) := Nat.testBit_two_pow_sub_one ..
theorem cst_dig {nd ly : Nat → Nat} {lc : Nat → Bool} {a : Nat → Nat} {n L : Nat} (hL : L ≤ 6) (v : vld nd ly lc a (fq n) L) (hn : n ≤ 8) : cst a (fq n) L / 16777216 = nz (uS a (fq n)) L ∧ ∀ p, p < n → cst a (fq n) L / 2 ^ (3 * (7 - p)) % 8 = a p := by
  have e : cst a (fq n) L = 16777216 * nz (uS a (fq n)) L + su (fun _ => true) (fun p => (if fq n p then a p else 0) * dg p) 8 := by
    unfold cst
    congr 1
    have : ∀ m, su (fq n) (fun p => a p * dg p) m = su (fun _ => true) (fun p => (if fq n p then a p else 0) * dg p) m := fun m => by
      induction m with
      | zero => rfl
      | succ m ih =>
        rw [su, su, ih]
        by_cases hq : fq n m = true
        · rw [if_pos hq, if_pos rfl, if_pos hq]
        · rw [if_neg hq, if_pos rfl, if_neg hq, Nat.zero_mul]
    exact this 8
  have d := dig8 (c := fun p => if fq n p then a p else 0) (fun i hi => by
    show (if fq n i then a i else 0) < 8
    by_cases hq : fq n i = true
    · rw [if_pos hq]; have := (v.1 i hi hq).1; omega
    · rw [if_neg hq]; decide) e
  refine ⟨d.1, fun p hp => ?_⟩
  have := d.2 p (by omega)
  rw [this]
  show (if fq n p then a p else 0) = a p
  rw [if_pos (by rw [fq_e]; exact decide_eq_true hp)]
section DYC2
variable {h : pm_H} {Q : Option Value → pm_H → Prop} {nd ly lcol : Nat → Nat} {n co L : Nat}
/-- DyeHouse.search -/
theorem c25 (S : SK h) (hn1 : 1 ≤ n) (hn : n ≤ 8) (hco : co < 8) (hL : L ≤ 6) (hly : ∀ j, j < L → ly j ≤ 1000000) (hcl : ∀ j, j < L → lcol j < 8) (hnd : ∀ p, p < n → nd p ≤ 300000) (eL : zI h 20 2 = nI L) (e21 : ∀ j, j < L → zI h 21 j = nI (lcol j) ∧ zI h 22 j = nI (ly j)) (e23 : ∀ p, p < n → zI h 23 p = nI (nd p))
    (kn : (∀ a, ¬ vld nd ly (fun j => decide (lcol j = co)) a (fq n) L) → ∀ g, Same [24, 25, 26] h g → Q (some (.int (Int32.ofInt (-1)))) g)
    (ks : ∀ a, vld nd ly (fun j => decide (lcol j = co)) a (fq n) L → (∀ b, vld nd ly (fun j => decide (lcol j = co)) b (fq n) L → cst a (fq n) L ≤ cst b (fq n) L) → ∀ g, Same [24, 25, 26, 34] h g → (∀ p, p < n → zI g 34 p = nI (a p)) → Q (some (.int (nI (nz (uS a (fq n)) L)))) g) :
    WP 25 0 [some (.ref 20), some (.int (nI co)), some (.int (nI n)), some (.ref 34), none, none, none] [] h Q := by
  have P8 := p8 hn
  have pos : 0 < 2 ^ n := Nat.pow_pos (by decide)
  have L1 : ∀ m j (g : pm_H) d6, j + m = L → Same [24, 25, 26] h g → (∀ s, s < 2 ^ n → zI g 24 s = nI (su s.testBit nd 8) ∧ zI g 25 s = nI (su s.testBit dg 8)) → (∀ s, s < 2 ^ n → OKr nd ly (fun j => decide (lcol j = co)) j s (zI g 26 s)) → WP 25 33 [some (.ref 20), some (.int (nI co)), some (.int (nI n)), some (.ref 34), some (.int (nI (2 ^ n - 1))), some (.int (nI j)), d6] [] g Q := by
    intro m
    induction m with
    | zero =>
      intro j g d6 hj sg f1 f2
      obtain rfl : j = L := by omega
      have S' := sg.SK S
      have eL' : zI g 20 2 = nI j := by rw [sg.1 20 (by decide)]; exact eL
      obtain ⟨v, v1, v2, v3⟩ := f2 (2 ^ n - 1) (by omega)
      cases v with
      | none =>
        have k' := kn v2 g sg
        have v1' : zI g 26 (2 ^ n - 1) = nI 2147483647 := v1
        refine V25L  S' ?_ ?_ ?_ ?_ ?_ ?_ <;> simp (disch := omega) only [oi_l, oi_n, z_nI, nIA, nIM, nIS, nIlt, nIle, nIeq, nIC, vpI, Nat.add_sub_cancel, Nat.not_le, Nat.not_lt, Nat.not_lt_zero, Nat.le_refl, not_true_eq_false, not_false_eq_true, false_imp_iff, true_imp_iff, forall_const, implies_true, Nat.reduceEqDiff, Nat.reduceLeDiff, Nat.reduceLT, eL', v1'] <;> first | omega | exact k'
      | some x =>
        obtain ⟨⟨a, va, ca⟩, mi⟩ := v2
        have xb := v3 x rfl
        have db : su (2 ^ n - 1).testBit dg 8 ≤ 2396745 := dg_b
        have v1' : zI g 26 (2 ^ n - 1) = nI x := v1
        have dd := cst_dig (show j ≤ 6 from hL) va hn
        have ca' : cst a (fq n) j = x := ca
        rw [ca'] at dd
        have M : ∀ m p (g : pm_H), p + m = n → Same [24, 25, 26, 34] h g → (∀ t, t < p → zI g 34 t = nI (a t)) → WP 25 88 [some (.ref 20), some (.int (nI co)), some (.int (nI n)), some (.ref 34), some (.int (nI (2 ^ n - 1))), some (.int (nI x)), some (.int (nI p))] [] g Q := by
          intro m
          induction m with
          | zero =>
            intro p g hp sg f
            obtain rfl : p = n := by omega
            have k' := ks a va (fun b vb => by rw [ca']; exact mi b vb) g sg f
            rw [← dd.1] at k'
            refine V25M  (sg.SK S) ?_ ?_ ?_ <;> simp (disch := omega) only [oi_l, oi_n, z_nI, nIA, nIM, nIS, nIlt, nIle, nIeq, nIC, vpI, Nat.add_sub_cancel, Nat.not_le, Nat.not_lt, Nat.not_lt_zero, Nat.le_refl, not_true_eq_false, not_false_eq_true, false_imp_iff, true_imp_iff, forall_const, implies_true, Nat.reduceEqDiff, Nat.reduceLeDiff, Nat.reduceLT, nID] <;> first | omega | exact k'
          | succ m ih =>
            intro p g hp sg f
            have dp := dd.2 p (by omega)
            have xl : x / 2 ^ (3 * (7 - p)) ≤ x := Nat.div_le_self _ _
            have a7 : x / 2 ^ (3 * (7 - p)) &&& 7 = a p := by rw [← dp]; exact Nat.and_two_pow_sub_one_eq_mod _ 3
            refine V25M  (sg.SK S) ?_ ?_ ?_ <;> simp (disch := omega) only [oi_l, oi_n, z_nI, nIA, nIM, nIS, nIlt, nIle, nIeq, nIC, vpI, Nat.add_sub_cancel, Nat.not_le, Nat.not_lt, Nat.not_lt_zero, Nat.le_refl, not_true_eq_false, not_false_eq_true, false_imp_iff, true_imp_iff, forall_const, implies_true, Nat.reduceEqDiff, Nat.reduceLeDiff, Nat.reduceLT, nShrV, nAnd, a7, show ¬ n ≤ p by omega] <;> (try omega)
            refine ih (p + 1) _ (by omega) (sg.I 34 _ _ (by decide)) (fun t ht => ?_)
            simp only [zI_yI, va_upA, if_true]
            by_cases e : t = p
            · rw [if_pos e, e]
            · rw [if_neg e]; exact f t (by omega)
        have M' := M n 0 g (by omega) (sg.sub (by decide)) (fun t ht => absurd ht (Nat.not_lt_zero _))
        have xn : ¬ x = 2147483647 := by omega
        refine V25L  S' ?_ ?_ ?_ ?_ ?_ ?_ <;> simp (disch := omega) only [oi_l, oi_n, z_nI, nIA, nIM, nIS, nIlt, nIle, nIeq, nIC, vpI, Nat.add_sub_cancel, Nat.not_le, Nat.not_lt, Nat.not_lt_zero, Nat.le_refl, not_true_eq_false, not_false_eq_true, false_imp_iff, true_imp_iff, forall_const, implies_true, Nat.reduceEqDiff, Nat.reduceLeDiff, Nat.reduceLT, eL', v1', xn] <;> first | omega | exact M'
    | succ m ih =>
      intro j g d6 hj sg f1 f2
      have S' := sg.SK S
      have eL' : zI g 20 2 = nI L := by rw [sg.1 20 (by decide)]; exact eL
      obtain ⟨c1, c2⟩ := e21 j (by omega)
      have c1' : zI g 21 j = nI (lcol j) := by rw [sg.1 21 (by decide)]; exact c1
      have c2' : zI g 22 j = nI (ly j) := by rw [sg.1 22 (by decide)]; exact c2
      have cb := hcl j (by omega)
      by_cases cc : lcol j = co
      · refine V25L  S' ?_ ?_ ?_ ?_ ?_ ?_ <;> simp (disch := omega) only [oi_l, oi_n, z_nI, nIA, nIM, nIS, nIlt, nIle, nIeq, nIC, vpI, Nat.add_sub_cancel, Nat.not_le, Nat.not_lt, Nat.not_lt_zero, Nat.le_refl, not_true_eq_false, not_false_eq_true, false_imp_iff, true_imp_iff, forall_const, implies_true, Nat.reduceEqDiff, Nat.reduceLeDiff, Nat.reduceLT, eL', c1', eq_true cc, show ¬ L ≤ j by omega] <;> (try omega)
        refine c27 (lc := fun j => decide (lcol j = co)) S' hn (by omega) (decide_eq_true cc) (hly j (by omega)) hnd c2' f1 f2 (fun g2 s2 f' => ?_)
        have s3 : Same [24, 25, 26] h g2 := (sg.tr s2).sub (by decide)
        refine V25b (s3.SK S) ?_
        simp (disch := omega) only [oi_l, oi_n, z_nI, nIA, nIM, nIS, nIlt, nIle, nIeq, nIC, vpI, Nat.add_sub_cancel, Nat.not_le, Nat.not_lt, Nat.not_lt_zero, Nat.le_refl, not_true_eq_false, not_false_eq_true, false_imp_iff, true_imp_iff, forall_const, implies_true, Nat.reduceEqDiff, Nat.reduceLeDiff, Nat.reduceLT]
        exact ih (j + 1) g2 d6 (by omega) s3 (by rw [s2.1 24 (by decide), s2.1 25 (by decide)]; exact f1) f'
      · have I' := ih (j + 1) g d6 (by omega) sg f1 (fun s hs => by
          obtain ⟨v, v1, v2, v3⟩ := f2 s hs
          exact ⟨v, v1, Rm_no (decide_eq_false cc) v2, fun y hy => Nat.le_trans (v3 y hy) (Nat.add_le_add_right (Nat.mul_le_mul_right _ (Nat.le_succ j)) _)⟩)
        refine V25L  S' ?_ ?_ ?_ ?_ ?_ ?_ <;> simp (disch := omega) only [oi_l, oi_n, z_nI, nIA, nIM, nIS, nIlt, nIle, nIeq, nIC, vpI, Nat.add_sub_cancel, Nat.not_le, Nat.not_lt, Nat.not_lt_zero, Nat.le_refl, not_true_eq_false, not_false_eq_true, false_imp_iff, true_imp_iff, forall_const, implies_true, Nat.reduceEqDiff, Nat.reduceLeDiff, Nat.reduceLT, eL', c1', cc, show ¬ L ≤ j by omega] <;> first | omega | exact I'
  have N34 : zN h 34 = 12 := S.N 34
  refine V25  S ?_ ?_ ?_ ?_ <;> simp (disch := omega) only [oi_l, oi_n, z_nI, nIA, nIM, nIS, nIlt, nIle, nIeq, nIC, vpI, Nat.add_sub_cancel, Nat.not_le, Nat.not_lt, Nat.not_lt_zero, Nat.le_refl, not_true_eq_false, not_false_eq_true, false_imp_iff, true_imp_iff, forall_const, implies_true, Nat.reduceEqDiff, Nat.reduceLeDiff, Nat.reduceLT, N34, nShl, show ¬ 8 < n by omega, show n ≤ 8 by omega, show n ≤ 12 by omega] <;> (try omega)
  refine c26 S hn e23 (fun g sg f => V25a (sg.SK S) ?_)
  refine L1 L 0 g none (by omega) sg (fun s hs => ⟨(f s hs).1, (f s hs).2.1⟩) (fun s hs => ⟨_, (f s hs).2.2, ?_, fun y hy => ?_⟩)
  · by_cases e : s = 0
    · rw [if_pos e, e]; exact Rm_0
    · rw [if_neg e]; exact Rm_1 (by omega) e
  · by_cases e : s = 0
    · rw [if_pos e] at hy; cases hy; exact Nat.zero_le _
    · rw [if_neg e] at hy; cases hy
end DYC2
/-- the needs of a cloth -/
def yvB (B : Bk) (c co w u k : Nat) : Nat := yrn (cnt (lsB B c k) co (lsB B c k).length) w u
def gl (B : Bk) (c co w u : Nat) : Nat → List Nat
  | 0 => []
  | k + 1 => if yvB B c co w u k = 0 then gl B c co w u k else gl B c co w u k ++ [yvB B c co w u k]
theorem gl_len (B : Bk) (c co w u : Nat) : ∀ k, (gl B c co w u k).length ≤ k
  | 0 => Nat.le_refl _
  | k + 1 => by
    have := gl_len B c co w u k
    rw [gl]
    split
    · omega
    · rw [List.length_append]; simp; omega
theorem V118 {h : pm_H} {Q : Option Value → pm_H → Prop} {q : Nat} {d3 : Option Value} {d4 : Option Value} {d5 : Option Value} {co : Nat} (S : SK h) (k1 : WP 118 5 [some (.ref 0), some (.ref q), some (.int (nI co)), some (.int (Int32.ofInt 0)), some (.int (Int32.ofInt 0)), d5] [] h Q) : WP 118 0 [some (.ref 0), some (.ref q), some (.int (nI co)), d3, d4, d5] [] h Q :=
  B118_0 (k1)
theorem V118L {h : pm_H} {Q : Option Value → pm_H → Prop} {q : Nat} {d5 : Option Value} {co : Nat} {n : Nat} {k : Nat} {b5 : Nat} {b8 : Nat} {b11 : Nat} (S : SK h) (t1 : zT h q = 3) (k3 : ((zI h q 2) ≤ (nI k)) → Q (some (.int (nI n))) h) (t4 : (¬ (zI h q 2) ≤ (nI k)) → zT h q = 3) (e6 : (¬ (zI h q 2) ≤ (nI k)) → zR h q 1 = some b5) (g7 : (¬ (zI h q 2) ≤ (nI k)) → (zT h b5 = 103 ∨ zT h b5 = 104 ∨ zT h b5 = 105) ∧ vp_in (nI k) (zN h b5)) (e9 : (¬ (zI h q 2) ≤ (nI k)) → zR h b5 ((nI k)).toNatClampNeg = some b8) (t10 : (¬ (zI h q 2) ≤ (nI k)) → zT h b8 = 5) (e12 : (¬ (zI h q 2) ≤ (nI k)) → zR h b8 0 = some b11) (k13 : (¬ (zI h q 2) ≤ (nI k)) → WP 117 0 [some (.ref 0), some (.ref b11), some (.int (nI co)), none] [] h (fun v1 h1 => WP 118 29 [some (.ref 0), some (.ref q), some (.int (nI co)), some (.int (nI n)), some (.int (nI k)), d5] (v1.toList ++ []) h1 Q)) : WP 118 5 [some (.ref 0), some (.ref q), some (.int (nI co)), some (.int (nI n)), some (.int (nI k)), d5] [] h Q :=
  B118_5 t1 (fun c2 => B118_62 (k3 c2)) (fun c2 => B118_14 (t4 c2) (e6 c2) (g7 c2) (e9 c2) (t10 c2) (e12 c2) (S.T 0) (k13 c2))
theorem V118r {h : pm_H} {Q : Option Value → pm_H → Prop} {q : Nat} {nd : Int32} {d5 : Option Value} {co : Nat} {n : Nat} {k : Nat} (S : SK h) (k2 : (nd ≤ 0) → WP 118 5 [some (.ref 0), some (.ref q), some (.int (nI co)), some (.int (nI n)), some (.int ((nI k) + (Int32.ofInt 1))), some (.int nd)] [] h Q) (k4 : (¬ nd ≤ 0) → ((Int32.ofInt 8) ≤ (nI n)) → WP 118 5 [some (.ref 0), some (.ref q), some (.int (nI co)), some (.int ((nI n) + (Int32.ofInt 1))), some (.int ((nI k) + (Int32.ofInt 1))), some (.int nd)] [] h Q) (g5 : (¬ nd ≤ 0) → (¬ (Int32.ofInt 8) ≤ (nI n)) → vp_in (nI n) 8) (k6 : (¬ nd ≤ 0) → (¬ (Int32.ofInt 8) ≤ (nI n)) → WP 118 5 [some (.ref 0), some (.ref q), some (.int (nI co)), some (.int ((nI n) + (Int32.ofInt 1))), some (.int ((nI k) + (Int32.ofInt 1))), some (.int nd)] [] (yI h 23 ((nI n)).toNatClampNeg nd) Q) : WP 118 29 [some (.ref 0), some (.ref q), some (.int (nI co)), some (.int (nI n)), some (.int (nI k)), d5] [.int nd] h Q :=
  B118_29 (fun c1 => B118_56 (k2 c1)) (fun c1 => B118_36 (fun c3 => B118_53 (B118_56 (k4 c1 c3))) (fun c3 => B118_42 (S.T 0) (S.R 0 6) (S.T 20) (S.R 20 3) ⟨(S.T 23), (S.bd 23 (g5 c1 c3))⟩ (B118_53 (B118_56 (k6 c1 c3)))))
theorem gD_s {l : List Nat} {x i : Nat} : (l ++ [x]).getD i 0 = if i < l.length then l.getD i 0 else if i = l.length then x else 0 := by
  by_cases h1 : i < l.length
  · rw [if_pos h1, gD_l h1]
  · rw [if_neg h1, gD_r (by omega)]
    by_cases h2 : i = l.length
    · rw [if_pos h2, h2]; simp
    · rw [if_neg h2, List.getD_eq_getElem?_getD, List.getElem?_eq_none (by simp; omega)]; rfl
/-- gatherNeeds -/
theorem c118 {h : pm_H} {Q : Option Value → pm_H → Prop} {B : Bk} {q c co w u : Nat} (S : SK h) (bo : bk_ok B) (hc : c < B.2.length) (hq : atQ h q B c) (hco : co < 8) (hw : w ≤ 500) (hu : u ≤ 50) (e11 : zI h 0 11 = nI w) (e12 : zI h 0 12 = nI u) (k0 : ∀ g, Same [23] h g → (∀ i, i < (gl B c co w u (clL B c).2.length).length → i < 8 → zI g 23 i = nI ((gl B c co w u (clL B c).2.length).getD i 0)) → Q (some (.int (nI (gl B c co w u (clL B c).2.length).length))) g) : WP 118 0 [some (.ref 0), some (.ref q), some (.int (nI co)), none, none, none] [] h Q := by
  obtain ⟨u1, u2, u3, u4⟩ := bk_cl bo hc
  have L : ∀ m k (g : pm_H) d5, k + m = (clL B c).2.length → Same [23] h g → (∀ i, i < (gl B c co w u k).length → i < 8 → zI g 23 i = nI ((gl B c co w u k).getD i 0)) → WP 118 5 [some (.ref 0), some (.ref q), some (.int (nI co)), some (.int (nI (gl B c co w u k).length)), some (.int (nI k)), d5] [] g Q := by
    intro m
    induction m with
    | zero =>
      intro k g d5 hk sg f
      obtain rfl : k = (clL B c).2.length := by omega
      obtain ⟨q1, q2, q3, q4, -⟩ := hq.keep (sg.D (by decide))
      have k0' := k0 g sg f
      refine V118L (b5 := 0) (b8 := 0) (b11 := 0) (sg.SK S) ?_ ?_ ?_ ?_ ?_ ?_ ?_ ?_ ?_ <;> simp (disch := omega) only [oi_l, oi_n, z_nI, nIA, nIM, nIS, nIlt, nIle, nIeq, nIC, vpI, Nat.add_sub_cancel, Nat.not_le, Nat.not_lt, Nat.not_lt_zero, Nat.le_refl, not_true_eq_false, not_false_eq_true, false_imp_iff, true_imp_iff, forall_const, implies_true, Nat.reduceEqDiff, Nat.reduceLeDiff, Nat.reduceLT, q2, q4] <;> first | omega | exact k0'
    | succ m ih =>
      intro k g d5 hk sg f
      obtain ⟨q1, q2, q3, q4, pa, q5, q6, q7, q8, q9⟩ := hq.keep (sg.D (by decide))
      obtain ⟨wc, w1, a1, a2, ⟨r, a3, a4⟩, a5, a6, a7⟩ := q9 k (by omega)
      have ok := bk_st bo (u4 k (by omega)).1
      refine V118L (b5 := pa) (b8 := wc) (b11 := r) (sg.SK S) ?_ ?_ ?_ ?_ ?_ ?_ ?_ ?_ ?_ <;> simp (disch := omega) only [oi_l, oi_n, z_nI, nIA, nIM, nIS, nIlt, nIle, nIeq, nIC, vpI, Nat.add_sub_cancel, Nat.not_le, Nat.not_lt, Nat.not_lt_zero, Nat.le_refl, not_true_eq_false, not_false_eq_true, false_imp_iff, true_imp_iff, forall_const, implies_true, Nat.reduceEqDiff, Nat.reduceLeDiff, Nat.reduceLT, q2, q4, q5, q7, q8, w1, a2, a3, show ¬ (clL B c).2.length ≤ k by omega, true_or, or_true, true_and] <;> (try omega)
      refine c117 (sg.SK S) a4 ok.1.2.1 ok.1.2.2 hco hw hu (by rw [sg.1 0 (by decide)]; exact e11) (by rw [sg.1 0 (by decide)]; exact e12) ?_
      obtain ⟨y, ey⟩ : ∃ y, y = yvB B c co w u k := ⟨_, rfl⟩
      have yb : y ≤ 300000 := by
        rw [ey]
        have h400 : (lsB B c k).length ≤ 400 := ok.1.2.1
        have := cnt_le (lsB B c k) co (lsB B c k).length
        exact yrn_b2 (by omega) hw hu
      have gll := gl_len B c co w u k
      have I := ih (k + 1) 
      show WP 118 29 [some (.ref 0), some (.ref q), some (.int (nI co)), some (.int (nI (gl B c co w u k).length)), some (.int (nI k)), d5] [.int (nI (yvB B c co w u k))] g Q
      rw [← ey]
      by_cases y0 : y = 0
      · have e : gl B c co w u (k + 1) = gl B c co w u k := by rw [gl, ← ey, if_pos y0]
        have I' := fun d5 => ih (k + 1) g d5 (by omega) sg (by rw [e]; exact f)
        rw [e] at I'
        subst y0
        refine V118r  (sg.SK S) ?_ ?_ ?_ ?_ <;> simp (disch := omega) only [oi_l, oi_n, z_nI, nIA, nIM, nIS, nIlt, nIle, nIeq, nIC, vpI, Nat.add_sub_cancel, Nat.not_le, Nat.not_lt, Nat.not_lt_zero, Nat.le_refl, not_true_eq_false, not_false_eq_true, false_imp_iff, true_imp_iff, forall_const, implies_true, Nat.reduceEqDiff, Nat.reduceLeDiff, Nat.reduceLT] <;> first | omega | exact I' _
      · have e : gl B c co w u (k + 1) = gl B c co w u k ++ [y] := by rw [gl, ← ey, if_neg y0]
        have el : (gl B c co w u (k + 1)).length = (gl B c co w u k).length + 1 := by rw [e]; simp
        by_cases l8 : 8 ≤ (gl B c co w u k).length
        · have I' := fun d5 => ih (k + 1) g d5 (by omega) sg (fun i h1 h2 => by
            rw [e, gD_s, if_pos (by omega)]; exact f i (by omega) h2)
          rw [el] at I'
          refine V118r  (sg.SK S) ?_ ?_ ?_ ?_ <;> simp (disch := omega) only [oi_l, oi_n, z_nI, nIA, nIM, nIS, nIlt, nIle, nIeq, nIC, vpI, Nat.add_sub_cancel, Nat.not_le, Nat.not_lt, Nat.not_lt_zero, Nat.le_refl, not_true_eq_false, not_false_eq_true, false_imp_iff, true_imp_iff, forall_const, implies_true, Nat.reduceEqDiff, Nat.reduceLeDiff, Nat.reduceLT, Nat.le_zero, y0, eq_true l8] <;> first | omega | exact I' _
        · have I' := fun d5 => ih (k + 1) (yI g 23 (gl B c co w u k).length (nI y)) d5 (by omega) (sg.I 23 _ _ (by decide)) (fun i h1 h2 => by
            rw [e, gD_s]
            simp only [zI_yI, va_upA, if_true]
            by_cases c1 : i < (gl B c co w u k).length
            · rw [if_neg (by omega), if_pos c1]; exact f i c1 h2
            · have c2 : i = (gl B c co w u k).length := by omega
              rw [if_pos c2, if_neg c1, if_pos c2])
          rw [el] at I'
          refine V118r  (sg.SK S) ?_ ?_ ?_ ?_ <;> simp (disch := omega) only [oi_l, oi_n, z_nI, nIA, nIM, nIS, nIlt, nIle, nIeq, nIC, vpI, Nat.add_sub_cancel, Nat.not_le, Nat.not_lt, Nat.not_lt_zero, Nat.le_refl, not_true_eq_false, not_false_eq_true, false_imp_iff, true_imp_iff, forall_const, implies_true, Nat.reduceEqDiff, Nat.reduceLeDiff, Nat.reduceLT, Nat.le_zero, y0, l8] <;> first | omega | exact I' _
  exact V118 S (L _ 0 h none (Nat.zero_add _) Same.rf (fun i hi => absurd hi (Nat.not_lt_zero _)))

/-! BEST DYEING of the class -/
theorem V26 {h : pm_H} {Q : Option Value → pm_H → Prop} {d2 : Option Value} {d3 : Option Value} {d4 : Option Value} {d5 : Option Value} {n : Nat} (S : SK h) (g1 : vp_in (Int32.ofInt 0) 256) (g2 : vp_in (Int32.ofInt 0) 256) (g3 : vp_in (Int32.ofInt 0) 256) (k4 : WP 26 23 [some (.ref 20), some (.int (nI n)), some (.int (Int32.ofInt 0)), d3, d4, d5] [] (yI (yI (yI h 24 ((Int32.ofInt 0)).toNatClampNeg (Int32.ofInt 0)) 25 ((Int32.ofInt 0)).toNatClampNeg (Int32.ofInt 0)) 26 ((Int32.ofInt 0)).toNatClampNeg (Int32.ofInt 0)) Q) : WP 26 0 [some (.ref 20), some (.int (nI n)), d2, d3, d4, d5] [] h Q :=
  B26_0 (S.T 20) (S.R 20 4) ⟨(S.T 24), (S.bd 24 g1)⟩ (S.R 20 5) ⟨(S.T 25), (S.bd 25 g2)⟩ (S.R 20 6) ⟨(S.T 26), (S.bd 26 g3)⟩ (k4)
theorem V26L {h : pm_H} {Q : Option Value → pm_H → Prop} {d3 : Option Value} {d4 : Option Value} {d5 : Option Value} {n : Nat} {p : Nat} (S : SK h) (k2 : ((nI n) ≤ (nI p)) → Q none h) (k3 : (¬ (nI n) ≤ (nI p)) → WP 26 45 [some (.ref 20), some (.int (nI n)), some (.int (nI p)), some (.int ((Int32.ofInt 1) <<< (((Int32.ofInt 3) * ((Int32.ofInt 7) - (nI p))) &&& 31))), some (.int ((Int32.ofInt 1) <<< ((nI p) &&& 31))), some (.int (Int32.ofInt 0))] [] h Q) : WP 26 23 [some (.ref 20), some (.int (nI n)), some (.int (nI p)), d3, d4, d5] [] h Q :=
  B26_23 (fun c1 => B26_119 (k2 c1)) (fun c1 => B26_28 (k3 c1))
theorem V26M {h : pm_H} {Q : Option Value → pm_H → Prop} {n : Nat} {p : Nat} {dd : Nat} {bb : Nat} {s : Nat} (S : SK h) (k2 : ((nI bb) ≤ (nI s)) → WP 26 23 [some (.ref 20), some (.int (nI n)), some (.int ((nI p) + (Int32.ofInt 1))), some (.int (nI dd)), some (.int (nI bb)), some (.int (nI s))] [] h Q) (g3 : (¬ (nI bb) ≤ (nI s)) → vp_in (nI s) 256) (g4 : (¬ (nI bb) ≤ (nI s)) → vp_in (nI p) 8) (g5 : (¬ (nI bb) ≤ (nI s)) → vp_in ((nI bb) + (nI s)) 256) (g6 : (¬ (nI bb) ≤ (nI s)) → vp_in (nI s) 256) (g7 : (¬ (nI bb) ≤ (nI s)) → vp_in ((nI bb) + (nI s)) 256) (g8 : (¬ (nI bb) ≤ (nI s)) → vp_in ((nI bb) + (nI s)) 256) (k9 : (¬ (nI bb) ≤ (nI s)) → WP 26 45 [some (.ref 20), some (.int (nI n)), some (.int (nI p)), some (.int (nI dd)), some (.int (nI bb)), some (.int ((nI s) + (Int32.ofInt 1)))] [] (yI (yI (yI h 24 (((nI bb) + (nI s))).toNatClampNeg ((zI h 24 ((nI s)).toNatClampNeg) + (zI h 23 ((nI p)).toNatClampNeg))) 25 (((nI bb) + (nI s))).toNatClampNeg ((zI h 25 ((nI s)).toNatClampNeg) + (nI dd))) 26 (((nI bb) + (nI s))).toNatClampNeg (Int32.ofInt 2147483647)) Q) : WP 26 45 [some (.ref 20), some (.int (nI n)), some (.int (nI p)), some (.int (nI dd)), some (.int (nI bb)), some (.int (nI s))] [] h Q :=
  B26_45 (fun c1 => B26_113 (k2 c1)) (fun c1 => B26_52 (S.T 20) (S.R 20 4) ⟨(S.T 24), (S.bd 24 (g3 c1))⟩ (S.R 20 3) ⟨(S.T 23), (S.bd 23 (g4 c1))⟩ ⟨(S.T 24), (S.bd 24 (g5 c1))⟩ (S.R 20 5) ⟨(S.T 25), (S.bd 25 (g6 c1))⟩ ⟨(S.T 25), (S.bd 25 (g7 c1))⟩ (S.R 20 6) ⟨(S.T 26), (S.bd 26 (g8 c1))⟩ (k9 c1))
theorem V27 {h : pm_H} {Q : Option Value → pm_H → Prop} {d3 : Option Value} {d4 : Option Value} {d5 : Option Value} {d6 : Option Value} {j : Nat} {al : Nat} (S : SK h) (k1 : WP 27 2 [some (.ref 20), some (.int (nI j)), some (.int (nI al)), some (.int (nI al)), d4, d5, d6] [] h Q) : WP 27 0 [some (.ref 20), some (.int (nI j)), some (.int (nI al)), d3, d4, d5, d6] [] h Q :=
  B27_0 (k1)
theorem V27L {h : pm_H} {Q : Option Value → pm_H → Prop} {d4 : Option Value} {d5 : Option Value} {d6 : Option Value} {j : Nat} {al : Nat} {s : Nat} (S : SK h) (k2 : ((nI s) ≤ 0) → Q none h) (k3 : (¬ (nI s) ≤ 0) → WP 27 9 [some (.ref 20), some (.int (nI j)), some (.int (nI al)), some (.int (nI s)), some (.int (nI s)), d5, d6] [] h Q) : WP 27 2 [some (.ref 20), some (.int (nI j)), some (.int (nI al)), some (.int (nI s)), d4, d5, d6] [] h Q :=
  B27_2 (fun c1 => B27_99 (k2 c1)) (fun c1 => B27_6 (k3 c1))
theorem V27M {h : pm_H} {Q : Option Value → pm_H → Prop} {d5 : Option Value} {d6 : Option Value} {j : Nat} {al : Nat} {s : Nat} {g : Nat} (S : SK h) (k2 : ((nI g) ≤ 0) → WP 27 2 [some (.ref 20), some (.int (nI j)), some (.int (nI al)), some (.int ((nI s) + (Int32.ofInt (-1)))), some (.int (nI g)), d5, d6] [] h Q) (g3 : (¬ (nI g) ≤ 0) → vp_in ((nI s) - (nI g)) 256) (g4 : (¬ (nI g) ≤ 0) → vp_in (nI g) 256) (g5 : (¬ (nI g) ≤ 0) → vp_in (nI j) 6) (k7 : (¬ (nI g) ≤ 0) → ((zI h 22 ((nI j)).toNatClampNeg) < (zI h 24 ((nI g)).toNatClampNeg)) → WP 27 9 [some (.ref 20), some (.int (nI j)), some (.int (nI al)), some (.int (nI s)), some (.int (((nI g) - (Int32.ofInt 1)) &&& (nI s))), some (.int (zI h 26 (((nI s) - (nI g))).toNatClampNeg)), d6] [] h Q) (k9 : (¬ (nI g) ≤ 0) → (¬ (zI h 22 ((nI j)).toNatClampNeg) < (zI h 24 ((nI g)).toNatClampNeg)) → ((zI h 26 (((nI s) - (nI g))).toNatClampNeg) = (Int32.ofInt 2147483647)) → WP 27 9 [some (.ref 20), some (.int (nI j)), some (.int (nI al)), some (.int (nI s)), some (.int (((nI g) - (Int32.ofInt 1)) &&& (nI s))), some (.int (zI h 26 (((nI s) - (nI g))).toNatClampNeg)), d6] [] h Q) (g10 : (¬ (nI g) ≤ 0) → (¬ (zI h 22 ((nI j)).toNatClampNeg) < (zI h 24 ((nI g)).toNatClampNeg)) → (¬ (zI h 26 (((nI s) - (nI g))).toNatClampNeg) = (Int32.ofInt 2147483647)) → vp_in (nI g) 256) (g11 : (¬ (nI g) ≤ 0) → (¬ (zI h 22 ((nI j)).toNatClampNeg) < (zI h 24 ((nI g)).toNatClampNeg)) → (¬ (zI h 26 (((nI s) - (nI g))).toNatClampNeg) = (Int32.ofInt 2147483647)) → vp_in (nI s) 256) (k12 : (¬ (nI g) ≤ 0) → (¬ (zI h 22 ((nI j)).toNatClampNeg) < (zI h 24 ((nI g)).toNatClampNeg)) → (¬ (zI h 26 (((nI s) - (nI g))).toNatClampNeg) = (Int32.ofInt 2147483647)) → WP 27 9 [some (.ref 20), some (.int (nI j)), some (.int (nI al)), some (.int (nI s)), some (.int (((nI g) - (Int32.ofInt 1)) &&& (nI s))), some (.int (zI h 26 (((nI s) - (nI g))).toNatClampNeg)), some (.int (((zI h 26 (((nI s) - (nI g))).toNatClampNeg) + (Int32.ofInt 16777216)) + ((nI j) * (zI h 25 ((nI g)).toNatClampNeg))))] [] (yI h 26 ((nI s)).toNatClampNeg (mnI (zI h 26 ((nI s)).toNatClampNeg) (((zI h 26 (((nI s) - (nI g))).toNatClampNeg) + (Int32.ofInt 16777216)) + ((nI j) * (zI h 25 ((nI g)).toNatClampNeg))))) Q) : WP 27 9 [some (.ref 20), some (.int (nI j)), some (.int (nI al)), some (.int (nI s)), some (.int (nI g)), d5, d6] [] h Q :=
  B27_9 (fun c1 => B27_93 (k2 c1)) (fun c1 => B27_14 (S.T 20) (S.R 20 6) ⟨(S.T 26), (S.bd 26 (g3 c1))⟩ (S.R 20 4) ⟨(S.T 24), (S.bd 24 (g4 c1))⟩ (S.R 20 1) ⟨(S.T 22), (S.bd 22 (g5 c1))⟩ (fun c6 => B27_82 (k7 c1 c6)) (fun c6 => B27_41 (fun c8 => B27_82 (k9 c1 c6 c8)) (fun c8 => B27_48 (S.T 20) (S.R 20 5) ⟨(S.T 25), (S.bd 25 (g10 c1 c6 c8))⟩ (S.R 20 6) ⟨(S.T 26), (S.bd 26 (g11 c1 c6 c8))⟩ (B27_82 (k12 c1 c6 c8)))))
theorem V25 {h : pm_H} {Q : Option Value → pm_H → Prop} {d4 : Option Value} {d5 : Option Value} {d6 : Option Value} {co : Nat} {n : Nat} (S : SK h) (k2 : ((nI n) < 0) → Q (some (.int (Int32.ofInt (-1)))) h) (k4 : (¬ (nI n) < 0) → ((Int32.ofInt 8) < (nI n)) → Q (some (.int (Int32.ofInt (-1)))) h) (k6 : (¬ (nI n) < 0) → (¬ (Int32.ofInt 8) < (nI n)) → ((nI n) ≤ (Int32.ofInt (zN h 34))) → WP 26 0 [some (.ref 20), some (.int (nI n)), none, none, none, none] [] h (fun v1 h1 => WP 25 30 [some (.ref 20), some (.int (nI co)), some (.int (nI n)), some (.ref 34), some (.int (((Int32.ofInt 1) <<< ((nI n) &&& 31)) - (Int32.ofInt 1))), d5, d6] (v1.toList ++ []) h1 Q)) (k7 : (¬ (nI n) < 0) → (¬ (Int32.ofInt 8) < (nI n)) → (¬ (nI n) ≤ (Int32.ofInt (zN h 34))) → Q (some (.int (Int32.ofInt (-1)))) h) : WP 25 0 [some (.ref 20), some (.int (nI co)), some (.int (nI n)), some (.ref 34), d4, d5, d6] [] h Q :=
  B25_0 (fun c1 => B25_16 (k2 c1)) (fun c1 => B25_4 (fun c3 => B25_16 (k4 c1 c3)) (fun c3 => B25_10 (S.al 34) (fun c5 => B25_18 (S.T 20) (k6 c1 c3 c5)) (fun c5 => B25_16 (k7 c1 c3 c5))))
theorem V25a {h : pm_H} {Q : Option Value → pm_H → Prop} {d5 : Option Value} {d6 : Option Value} {co : Nat} {n : Nat} {al : Nat} (S : SK h) (k1 : WP 25 33 [some (.ref 20), some (.int (nI co)), some (.int (nI n)), some (.ref 34), some (.int (nI al)), some (.int (Int32.ofInt 0)), d6] [] h Q) : WP 25 30 [some (.ref 20), some (.int (nI co)), some (.int (nI n)), some (.ref 34), some (.int (nI al)), d5, d6] [] h Q :=
  B25_30 (k1)
theorem V25L {h : pm_H} {Q : Option Value → pm_H → Prop} {d6 : Option Value} {co : Nat} {n : Nat} {al : Nat} {j : Nat} (S : SK h) (g2 : ((zI h 20 2) ≤ (nI j)) → vp_in (nI al) 256) (k4 : ((zI h 20 2) ≤ (nI j)) → (¬ (zI h 26 ((nI al)).toNatClampNeg) = (Int32.ofInt 2147483647)) → WP 25 88 [some (.ref 20), some (.int (nI co)), some (.int (nI n)), some (.ref 34), some (.int (nI al)), some (.int (zI h 26 ((nI al)).toNatClampNeg)), some (.int (Int32.ofInt 0))] [] h Q) (k5 : ((zI h 20 2) ≤ (nI j)) → ((zI h 26 ((nI al)).toNatClampNeg) = (Int32.ofInt 2147483647)) → Q (some (.int (Int32.ofInt (-1)))) h) (g6 : (¬ (zI h 20 2) ≤ (nI j)) → vp_in (nI j) 6) (k8 : (¬ (zI h 20 2) ≤ (nI j)) → (¬ (zI h 21 ((nI j)).toNatClampNeg) = (nI co)) → WP 25 33 [some (.ref 20), some (.int (nI co)), some (.int (nI n)), some (.ref 34), some (.int (nI al)), some (.int ((nI j) + (Int32.ofInt 1))), d6] [] h Q) (k9 : (¬ (zI h 20 2) ≤ (nI j)) → ((zI h 21 ((nI j)).toNatClampNeg) = (nI co)) → WP 27 0 [some (.ref 20), some (.int (nI j)), some (.int (nI al)), none, none, none, none] [] h (fun v1 h1 => WP 25 61 [some (.ref 20), some (.int (nI co)), some (.int (nI n)), some (.ref 34), some (.int (nI al)), some (.int (nI j)), d6] (v1.toList ++ []) h1 Q)) : WP 25 33 [some (.ref 20), some (.int (nI co)), some (.int (nI n)), some (.ref 34), some (.int (nI al)), some (.int (nI j)), d6] [] h Q :=
  B25_33 (S.T 20) (fun c1 => B25_67 (S.T 20) (S.R 20 6) ⟨(S.T 26), (S.bd 26 (g2 c1))⟩ (fun c3 => B25_85 (k4 c1 c3)) (fun c3 => B25_83 (k5 c1 c3))) (fun c1 => B25_42 (S.T 20) (S.R 20 0) ⟨(S.T 21), (S.bd 21 (g6 c1))⟩ (fun c7 => B25_61 (k8 c1 c7)) (fun c7 => B25_53 (S.T 20) (k9 c1 c7)))
theorem V25b {h : pm_H} {Q : Option Value → pm_H → Prop} {d6 : Option Value} {co : Nat} {n : Nat} {al : Nat} {j : Nat} (S : SK h) (k1 : WP 25 33 [some (.ref 20), some (.int (nI co)), some (.int (nI n)), some (.ref 34), some (.int (nI al)), some (.int ((nI j) + (Int32.ofInt 1))), d6] [] h Q) : WP 25 61 [some (.ref 20), some (.int (nI co)), some (.int (nI n)), some (.ref 34), some (.int (nI al)), some (.int (nI j)), d6] [] h Q :=
  B25_61 (k1)
theorem V25M {h : pm_H} {Q : Option Value → pm_H → Prop} {co : Nat} {n : Nat} {al : Nat} {be : Nat} {p : Nat} (S : SK h) (k2 : ((nI n) ≤ (nI p)) → Q (some (.int ((nI be) / (Int32.ofInt 16777216)))) h) (g3 : (¬ (nI n) ≤ (nI p)) → vp_in (nI p) 12) (k4 : (¬ (nI n) ≤ (nI p)) → WP 25 88 [some (.ref 20), some (.int (nI co)), some (.int (nI n)), some (.ref 34), some (.int (nI al)), some (.int (nI be)), some (.int ((nI p) + (Int32.ofInt 1)))] [] (yI h 34 ((nI p)).toNatClampNeg (((nI be) >>> (((Int32.ofInt 3) * ((Int32.ofInt 7) - (nI p))) &&& 31)) &&& (Int32.ofInt 7))) Q) : WP 25 88 [some (.ref 20), some (.int (nI co)), some (.int (nI n)), some (.ref 34), some (.int (nI al)), some (.int (nI be)), some (.int (nI p))] [] h Q :=
  B25_88 (fun c1 => B25_117 (by decide) (k2 c1)) (fun c1 => B25_94 ⟨(S.T 34), (S.bd 34 (g3 c1))⟩ (k4 c1))
def encV : Option Nat → Int32
  | none => nI 2147483647
  | some v => nI v
theorem su_one {f : Nat → Nat} {p : Nat} : ∀ {n : Nat}, p < n → su (fun i => decide (i = p)) f n = f p
  | 0, h => absurd h (Nat.not_lt_zero _)
  | n + 1, h => by
    rw [su]
    by_cases e : n = p
    · subst e
      rw [su_0 (fun i hi hq => by simp only [decide_eq_true_eq] at hq; omega), decide_eq_true rfl]
      simp
    · rw [su_one (show p < n by omega), decide_eq_false e]
      rfl
theorem su_add {f : Nat → Nat} {p S : Nat} (hp : p < 8) (hS : S < 2 ^ p) : su (2 ^ p + S).testBit f 8 = su S.testBit f 8 + f p := by
  rw [← su_one (f := f) hp]
  refine su_sp (fun i hi => ?_)
  by_cases e : i = p
  · subst e
    rw [Nat.testBit_two_pow_add_eq, Nat.testBit_lt_two_pow hS]
    simp
  · rw [decide_eq_false e]
    by_cases l : i < p
    · rw [Nat.testBit_two_pow_add_gt l]; simp
    · have h1 : 2 ^ p + S < 2 ^ i := by
        have := Nat.pow_le_pow_right (n := 2) (by decide) (show p + 1 ≤ i by omega)
        rw [Nat.pow_succ] at this
        omega
      rw [Nat.testBit_lt_two_pow h1, Nat.testBit_lt_two_pow (show S < 2 ^ i by omega)]
      simp
theorem dg_b {q : Nat → Bool} : su q dg 8 ≤ 2396745 := by
  have h : su q dg 8 ≤ su (fun _ => true) dg 8 := su_mono (fun p _ => ⟨fun _ => rfl, Nat.le_refl _⟩)
  have e : su (fun _ => true) dg 8 = 2396745 := by decide
  omega
theorem nd_b {q : Nat → Bool} {nd : Nat → Nat} (h : ∀ p, p < 8 → q p = true → nd p ≤ 300000) : su q nd 8 ≤ 2400000 := by
  have h1 : su q nd 8 = su q (fun p => if q p then nd p else 0) 8 := su_cg (fun p _ => ⟨rfl, fun hq => by rw [if_pos hq]⟩)
  have h2 : su q (fun p => if q p then nd p else 0) 8 ≤ su (fun _ => true) (fun _ => 300000) 8 := su_mono (fun p hp => ⟨fun _ => rfl, by
    by_cases hq : q p = true
    · rw [if_pos hq]; exact h p hp hq
    · rw [if_neg hq]; exact Nat.zero_le _⟩)
  have e : su (fun _ => true) (fun _ => 300000) 8 = 2400000 := by decide
  omega
theorem tbP {S n p : Nat} (h : S < 2 ^ n) (hp : S.testBit p = true) : p < n := by
  by_cases q : p < n
  · exact q
  · rw [Nat.testBit_lt_two_pow (Nat.lt_of_lt_of_le h (Nat.pow_le_pow_right (by decide) (by omega)))] at hp
    cases hp
section DYC
variable {h : pm_H} {Q : Option Value → pm_H → Prop} {nd : Nat → Nat} {n : Nat}
/-- prepareSets -/
theorem c26 (S : SK h) (hn : n ≤ 8) (e23 : ∀ p, p < n → zI h 23 p = nI (nd p)) (k0 : ∀ g, Same [24, 25, 26] h g → (∀ s, s < 2 ^ n → zI g 24 s = nI (su s.testBit nd 8) ∧ zI g 25 s = nI (su s.testBit dg 8) ∧ zI g 26 s = encV (if s = 0 then some 0 else none)) → Q none g) : WP 26 0 [some (.ref 20), some (.int (nI n)), none, none, none, none] [] h Q := by
  have P8 := p8 hn
  have L : ∀ m p (g : pm_H) d3 d4 d5, p + m = n → Same [24, 25, 26] h g → (∀ s, s < 2 ^ p → zI g 24 s = nI (su s.testBit nd 8) ∧ zI g 25 s = nI (su s.testBit dg 8) ∧ zI g 26 s = encV (if s = 0 then some 0 else none)) → WP 26 23 [some (.ref 20), some (.int (nI n)), some (.int (nI p)), d3, d4, d5] [] g Q := by
    intro m
    induction m with
    | zero =>
      intro p g d3 d4 d5 hp sg f
      obtain rfl : p = n := by omega
      have k0' := k0 g sg f
      refine V26L  (sg.SK S) ?_ ?_ <;> simp (disch := omega) only [oi_l, oi_n, z_nI, nIA, nIM, nIS, nIlt, nIle, nIeq, nIC, vpI, Nat.add_sub_cancel, Nat.not_le, Nat.not_lt, Nat.not_lt_zero, Nat.le_refl, not_true_eq_false, not_false_eq_true, false_imp_iff, true_imp_iff, forall_const, implies_true, Nat.reduceEqDiff, Nat.reduceLeDiff, Nat.reduceLT] <;> first | omega | exact k0'
    | succ m ih =>
      intro p g d3 d4 d5 hp sg f
      have pp : 2 ^ (p + 1) ≤ 2 ^ n := Nat.pow_le_pow_right (by decide) (by omega)
      have p2 : 2 ^ (p + 1) = 2 ^ p * 2 := Nat.pow_succ ..
      have d21 : 2 ^ (3 * (7 - p)) = dg p := by
        unfold dg
        rw [show (8 : Nat) = 2 ^ 3 from rfl, ← Nat.pow_mul]
      have dl : dg p ≤ 2097152 := Nat.pow_le_pow_right (n := 8) (by decide) (show 7 - p ≤ 7 by omega)
      have M : ∀ m' s (g : pm_H), s + m' = 2 ^ p → Same [24, 25, 26] h g → (∀ s, s < 2 ^ p → zI g 24 s = nI (su s.testBit nd 8) ∧ zI g 25 s = nI (su s.testBit dg 8) ∧ zI g 26 s = encV (if s = 0 then some 0 else none)) → (∀ s', s' < s → zI g 24 (2 ^ p + s') = nI (su (2 ^ p + s').testBit nd 8) ∧ zI g 25 (2 ^ p + s') = nI (su (2 ^ p + s').testBit dg 8) ∧ zI g 26 (2 ^ p + s') = encV none) → WP 26 45 [some (.ref 20), some (.int (nI n)), some (.int (nI p)), some (.int (nI (dg p))), some (.int (nI (2 ^ p))), some (.int (nI s))] [] g Q := by
        intro m'
        induction m' with
        | zero =>
          intro s g hs sg f1 f2
          obtain rfl : s = 2 ^ p := by omega
          have I' := ih (p + 1) g (some (.int (nI (dg p)))) (some (.int (nI (2 ^ p)))) (some (.int (nI (2 ^ p)))) (by omega) sg (fun s hs => by
            by_cases c : s < 2 ^ p
            · exact f1 s c
            · have := f2 (s - 2 ^ p) (by omega)
              rw [show 2 ^ p + (s - 2 ^ p) = s by omega] at this
              rw [if_neg (by have : 0 < 2 ^ p := Nat.pow_pos (by decide); omega)]
              exact this)
          refine V26M  (sg.SK S) ?_ ?_ ?_ ?_ ?_ ?_ ?_ ?_ <;> simp (disch := omega) only [oi_l, oi_n, z_nI, nIA, nIM, nIS, nIlt, nIle, nIeq, nIC, vpI, Nat.add_sub_cancel, Nat.not_le, Nat.not_lt, Nat.not_lt_zero, Nat.le_refl, not_true_eq_false, not_false_eq_true, false_imp_iff, true_imp_iff, forall_const, implies_true, Nat.reduceEqDiff, Nat.reduceLeDiff, Nat.reduceLT] <;> first | omega | exact I'
        | succ m' ih' =>
          intro s g hs sg f1 f2
          obtain ⟨y1, y2, y3⟩ := f1 s (by omega)
          have y4 : zI g 23 p = nI (nd p) := by rw [sg.1 23 (by decide)]; exact e23 p (by omega)
          refine V26M  (sg.SK S) ?_ ?_ ?_ ?_ ?_ ?_ ?_ ?_ <;> simp (disch := omega) only [oi_l, oi_n, z_nI, nIA, nIM, nIS, nIlt, nIle, nIeq, nIC, vpI, Nat.add_sub_cancel, Nat.not_le, Nat.not_lt, Nat.not_lt_zero, Nat.le_refl, not_true_eq_false, not_false_eq_true, false_imp_iff, true_imp_iff, forall_const, implies_true, Nat.reduceEqDiff, Nat.reduceLeDiff, Nat.reduceLT, zI_yI, va_upA, Nat.reduceEqDiff, ↓reduceIte, y1, y2, y4, show ¬ 2 ^ p ≤ s by omega] <;> (try omega)
          have ne : ∀ t, t < 2 ^ p → ¬ t = 2 ^ p + s := fun t ht => by omega
          refine ih' (s + 1) _ (by omega) (((sg.I 24 _ _ (by decide)).I 25 _ _ (by decide)).I 26 _ _ (by decide)) (fun t ht => ?_) (fun t ht => ?_)
          · simp only [zI_yI, va_upA, if_true, Nat.reduceEqDiff, if_false, if_neg (ne t ht)]
            exact f1 t ht
          · simp only [zI_yI, va_upA, if_true, Nat.reduceEqDiff, if_false]
            by_cases e : t = s
            · subst e
              rw [if_pos rfl, if_pos rfl, if_pos rfl, su_add (by omega) (by omega), su_add (by omega) (by omega)]
              exact ⟨rfl, rfl, rfl⟩
            · rw [if_neg (by omega), if_neg (by omega), if_neg (by omega)]
              exact f2 t (by omega)
      have M' := M (2 ^ p) 0 g (by omega) sg f (fun s' h1 => absurd h1 (Nat.not_lt_zero _))
      refine V26L  (sg.SK S) ?_ ?_ <;> simp (disch := omega) only [oi_l, oi_n, z_nI, nIA, nIM, nIS, nIlt, nIle, nIeq, nIC, vpI, Nat.add_sub_cancel, Nat.not_le, Nat.not_lt, Nat.not_lt_zero, Nat.le_refl, not_true_eq_false, not_false_eq_true, false_imp_iff, true_imp_iff, forall_const, implies_true, Nat.reduceEqDiff, Nat.reduceLeDiff, Nat.reduceLT, nShlV, d21, show ¬ n ≤ p by omega] <;> first | omega | exact M'
  have z : ∀ f, su (Nat.testBit 0) f 8 = 0 := fun f => su_0 (fun p hp hq => by rw [Nat.zero_testBit] at hq; cases hq)
  refine V26  S ?_ ?_ ?_ ?_ <;> simp (disch := omega) only [oi_l, oi_n, z_nI, nIA, nIM, nIS, nIlt, nIle, nIeq, nIC, vpI, Nat.add_sub_cancel, Nat.not_le, Nat.not_lt, Nat.not_lt_zero, Nat.le_refl, not_true_eq_false, not_false_eq_true, false_imp_iff, true_imp_iff, forall_const, implies_true, Nat.reduceEqDiff, Nat.reduceLeDiff, Nat.reduceLT] <;> (try omega)
  refine L n 0 _ none none none (by omega) (((Same.rf.I 24 _ _ (by decide)).I 25 _ _ (by decide)).I 26 _ _ (by decide)) (fun s hs => ?_)
  have hs' : s < 1 := hs
  obtain rfl : s = 0 := by omega
  simp only [zI_yI, va_upA, if_true, Nat.reduceEqDiff, if_false, z]
  refine ⟨?_, ?_, ?_⟩ <;> first | trivial | rfl
/-- what a cell of bestOfSet says -/
def OKr (nd ly : Nat → Nat) (lc : Nat → Bool) (j s : Nat) (x : Int32) : Prop := ∃ v, x = encV v ∧ Rm nd ly lc j s.testBit v ∧ ∀ y, v = some y → y ≤ j * 16777216 + 5 * su s.testBit dg 8
/-- useLot -/
theorem c27 {ly : Nat → Nat} {lc : Nat → Bool} {j : Nat} (S : SK h) (hn : n ≤ 8) (hj : j < 6) (hlc : lc j = true) (hly : ly j ≤ 1000000) (hnd : ∀ p, p < n → nd p ≤ 300000) (e22 : zI h 22 j = nI (ly j)) (e24 : ∀ s, s < 2 ^ n → zI h 24 s = nI (su s.testBit nd 8) ∧ zI h 25 s = nI (su s.testBit dg 8)) (e26 : ∀ s, s < 2 ^ n → OKr nd ly lc j s (zI h 26 s)) (k0 : ∀ g, Same [26] h g → (∀ s, s < 2 ^ n → OKr nd ly lc (j + 1) s (zI g 26 s)) → Q none g) : WP 27 0 [some (.ref 20), some (.int (nI j)), some (.int (nI (2 ^ n - 1))), none, none, none, none] [] h Q := by
  have P8 := p8 hn
  have pos : 0 < 2 ^ n := Nat.pow_pos (by decide)
  have L : ∀ s (g : pm_H) d4 d5 d6, s < 2 ^ n → Same [26] h g → (∀ t, t ≤ s → zI g 26 t = zI h 26 t) → (∀ t, s < t → t < 2 ^ n → OKr nd ly lc (j + 1) t (zI g 26 t)) → WP 27 2 [some (.ref 20), some (.int (nI j)), some (.int (nI (2 ^ n - 1))), some (.int (nI s)), d4, d5, d6] [] g Q := by
    intro s
    induction s with
    | zero =>
      intro g d4 d5 d6 hs sg f1 f2
      have k0' := k0 g sg (fun t ht => by
        by_cases e : t = 0
        · subst e
          rw [f1 0 (Nat.le_refl _)]
          obtain ⟨v, v1, v2, v3⟩ := e26 0 ht
          refine ⟨v, v1, RG_end (RG_st (by decide) v2), fun y hy => ?_⟩
          exact Nat.le_trans (v3 y hy) (Nat.add_le_add_right (Nat.mul_le_mul_right _ (Nat.le_succ j)) _)
        · exact f2 t (by omega) ht)
      refine V27L  (sg.SK S) ?_ ?_ <;> simp (disch := omega) only [oi_l, oi_n, z_nI, nIA, nIM, nIS, nIlt, nIle, nIeq, nIC, vpI, Nat.add_sub_cancel, Nat.not_le, Nat.not_lt, Nat.not_lt_zero, Nat.le_refl, not_true_eq_false, not_false_eq_true, false_imp_iff, true_imp_iff, forall_const, implies_true, Nat.reduceEqDiff, Nat.reduceLeDiff, Nat.reduceLT] <;> first | omega | exact k0'
    | succ s ih =>
      intro g d4 d5 d6 hs sg f1 f2
      have s8 : s + 1 < 256 := by omega
      have M : ∀ (gg : Nat) (g : pm_H) d5 d6 v, gg &&& (s + 1) = gg → Same [26] h g → (∀ t, t < s + 1 → zI g 26 t = zI h 26 t) → (∀ t, s + 1 < t → t < 2 ^ n → OKr nd ly lc (j + 1) t (zI g 26 t)) → zI g 26 (s + 1) = encV v → RG nd ly lc j (s + 1).testBit gg v → (∀ y, v = some y → y ≤ (j + 1) * 16777216 + 5 * su (s + 1).testBit dg 8) → WP 27 9 [some (.ref 20), some (.int (nI j)), some (.int (nI (2 ^ n - 1))), some (.int (nI (s + 1))), some (.int (nI gg)), d5, d6] [] g Q := by
        intro gg
        induction gg using Nat.strongRecOn with
        | ind gg ihg =>
          intro g d5 d6 v hg sg f1 f2 ev rg bv
          have em1 : nI (s + 1) + Int32.ofInt (-1) = nI s := by rw [nI_p]; exact zI_q s
          by_cases g0 : gg = 0
          · subst g0
            have I' := ih g (some (.int (nI 0))) d5 d6 (by omega) sg (fun t ht => f1 t (by omega)) (fun t h1 h2 => by
              by_cases e : t = s + 1
              · subst e; exact ⟨v, ev, RG_end rg, bv⟩
              · exact f2 t (by omega) h2)
            refine V27M  (sg.SK S) ?_ ?_ ?_ ?_ ?_ ?_ ?_ ?_ ?_ <;> simp (disch := omega) only [oi_l, oi_n, z_nI, nIA, nIM, nIS, nIlt, nIle, nIeq, nIC, vpI, Nat.add_sub_cancel, Nat.not_le, Nat.not_lt, Nat.not_lt_zero, Nat.le_refl, not_true_eq_false, not_false_eq_true, false_imp_iff, true_imp_iff, forall_const, implies_true, Nat.reduceEqDiff, Nat.reduceLeDiff, Nat.reduceLT, em1] <;> first | omega | exact I'
          · obtain ⟨gle, gsb⟩ := sb_tb (n := 8) (show s + 1 < 2 ^ 8 from s8) hg
            have lt : (gg - 1) &&& (s + 1) < gg := by have := @Nat.and_le_left (gg - 1) (s + 1); omega
            obtain ⟨w, w1, w2, w3⟩ := e26 (s + 1 - gg) (by omega)
            rw [← f1 (s + 1 - gg) (by omega)] at w1
            obtain ⟨a1, a2⟩ := e24 gg (by omega)
            rw [← sg.1 24 (by decide)] at a1
            rw [← sg.1 25 (by decide)] at a2
            have a3 : zI g 22 j = nI (ly j) := by rw [sg.1 22 (by decide)]; exact e22
            have ndb : su gg.testBit nd 8 ≤ 2400000 := nd_b (fun p hp hq => hnd p (tbP (show gg < 2 ^ n by omega) hq))
            have dgb : su gg.testBit dg 8 ≤ 2396745 := dg_b
            have dsb : su (s + 1).testBit dg 8 ≤ 2396745 := dg_b
            have dwb : su (s + 1 - gg).testBit dg 8 ≤ 2396745 := dg_b
            have dsp : su (s + 1).testBit dg 8 = su (s + 1 - gg).testBit dg 8 + su gg.testBit dg 8 := su_sp (fun p hp => by
              rw [gsb, mk_tb _ 8 p hp]
              have sub : gg.testBit p = true → (s + 1).testBit p = true := fun hp => by
                have := congrArg (fun x => x.testBit p) hg
                simp only [Nat.testBit_and, hp, Bool.true_and] at this
                exact this
              cases h1 : (s + 1).testBit p <;> cases h2 : gg.testBit p <;> simp_all)
            have mul : j * su gg.testBit dg 8 ≤ 5 * su gg.testBit dg 8 := Nat.mul_le_mul_right _ (by omega)
            have st := RG_step (nd := nd) (ly := ly) (lc := lc) s8 hg (by omega) hlc rg w2
            have nxt := fun g' v' => ihg _ lt g' (some (.int (encV w))) d6 v' (an_sub _ _)
            have g31 : gg < 2147483648 := by omega
            have hg' : gg - 1 < 2147483648 := by omega
            by_cases hle : su gg.testBit nd 8 ≤ ly j
            · rw [if_pos hle] at st
              have hle' : ¬ ly j < su gg.testBit nd 8 := by omega
              cases w with
              | none =>
                have I' := fun d6 => ihg _ lt g (some (.int (nI 2147483647))) d6 v (an_sub _ _) sg f1 f2 ev st bv
                have w1' : zI g 26 (s + 1 - gg) = nI 2147483647 := w1
                refine V27M  (sg.SK S) ?_ ?_ ?_ ?_ ?_ ?_ ?_ ?_ ?_ <;> simp (disch := omega) only [oi_l, oi_n, z_nI, nIA, nIM, nIS, nIlt, nIle, nIeq, nIC, vpI, Nat.add_sub_cancel, Nat.not_le, Nat.not_lt, Nat.not_lt_zero, Nat.le_refl, not_true_eq_false, not_false_eq_true, false_imp_iff, true_imp_iff, forall_const, implies_true, Nat.reduceEqDiff, Nat.reduceLeDiff, Nat.reduceLT, a1, a2, a3, w1', hle', Nat.le_zero, g0, nAnd] <;> first | omega | exact I' _
              | some y =>
                have yb := w3 y rfl
                have w1' : zI g 26 (s + 1 - gg) = nI y := w1
                have yn : ¬ y = 2147483647 := by omega
                have key : ∀ x, x = nI (mnO v (y + 16777216 + j * su gg.testBit dg 8)) → ∀ d5 d6, WP 27 9 [some (.ref 20), some (.int (nI j)), some (.int (nI (2 ^ n - 1))), some (.int (nI (s + 1))), some (.int (nI ((gg - 1) &&& (s + 1)))), d5, d6] [] (yI g 26 (s + 1) x) Q := by
                  intro x ex d5 d6
                  refine ihg _ lt _ d5 d6 (some (mnO v (y + 16777216 + j * su gg.testBit dg 8))) (an_sub _ _) (sg.I 26 _ _ (by decide)) (fun t ht => ?_) (fun t h1 h2 => ?_) ?_ st (fun z hz => ?_)
                  · simp only [zI_yI, va_upA, if_true]; rw [if_neg (by omega)]; exact f1 t ht
                  · simp only [zI_yI, va_upA, if_true]; rw [if_neg (by omega)]; exact f2 t h1 h2
                  · simp only [zI_yI, va_upA, if_true]; exact ex
                  · cases hz
                    cases v with
                    | none => show y + 16777216 + j * su gg.testBit dg 8 ≤ _; omega
                    | some z =>
                      have := bv z rfl
                      show (if y + 16777216 + j * su gg.testBit dg 8 < z then y + 16777216 + j * su gg.testBit dg 8 else z) ≤ _
                      split <;> omega
                have mm : mnI (encV v) (nI (y + 16777216 + j * su gg.testBit dg 8)) = nI (mnO v (y + 16777216 + j * su gg.testBit dg 8)) := by
                  cases v with
                  | none => exact if_pos (by show nI _ < nI 2147483647; rw [nIlt (by omega) (by omega)]; omega)
                  | some z =>
                    have := bv z rfl
                    show (if nI (y + 16777216 + j * su gg.testBit dg 8) < nI z then nI (y + 16777216 + j * su gg.testBit dg 8) else nI z) = nI (if y + 16777216 + j * su gg.testBit dg 8 < z then y + 16777216 + j * su gg.testBit dg 8 else z)
                    by_cases c : y + 16777216 + j * su gg.testBit dg 8 < z
                    · rw [if_pos c, if_pos (by rw [nIlt (by omega) (by omega)]; exact c)]
                    · rw [if_neg c, if_neg (by rw [nIlt (by omega) (by omega)]; exact c)]
                refine V27M  (sg.SK S) ?_ ?_ ?_ ?_ ?_ ?_ ?_ ?_ ?_ <;> simp (disch := omega) only [oi_l, oi_n, z_nI, nIA, nIM, nIS, nIlt, nIle, nIeq, nIC, vpI, Nat.add_sub_cancel, Nat.not_le, Nat.not_lt, Nat.not_lt_zero, Nat.le_refl, not_true_eq_false, not_false_eq_true, false_imp_iff, true_imp_iff, forall_const, implies_true, Nat.reduceEqDiff, Nat.reduceLeDiff, Nat.reduceLT, a1, a2, a3, ev, w1', yn, mm, hle', Nat.le_zero, g0, nAnd] <;> first | omega | exact key _ rfl _ _
            · rw [if_neg hle] at st
              have I' := fun d5 d6 => ihg _ lt g d5 d6 v (an_sub _ _) sg f1 f2 ev st bv
              refine V27M  (sg.SK S) ?_ ?_ ?_ ?_ ?_ ?_ ?_ ?_ ?_ <;> simp (disch := omega) only [oi_l, oi_n, z_nI, nIA, nIM, nIS, nIlt, nIle, nIeq, nIC, vpI, Nat.add_sub_cancel, Nat.not_le, Nat.not_lt, Nat.not_lt_zero, Nat.le_refl, not_true_eq_false, not_false_eq_true, false_imp_iff, true_imp_iff, forall_const, implies_true, Nat.reduceEqDiff, Nat.reduceLeDiff, Nat.reduceLT, a1, a2, a3, show ly j < su gg.testBit nd 8 by omega, Nat.le_zero, g0, nAnd] <;> first | omega | exact I' _ _
      obtain ⟨v, v1, v2, v3⟩ := e26 (s + 1) hs
      rw [← f1 (s + 1) (Nat.le_refl _)] at v1
      have M' := M (s + 1) g d5 d6 v (Nat.and_self _) sg (fun t ht => f1 t (by omega)) f2 v1 (RG_st s8 v2) (fun y hy => Nat.le_trans (v3 y hy) (Nat.add_le_add_right (Nat.mul_le_mul_right _ (Nat.le_succ j)) _))
      refine V27L  (sg.SK S) ?_ ?_ <;> simp (disch := omega) only [oi_l, oi_n, z_nI, nIA, nIM, nIS, nIlt, nIle, nIeq, nIC, vpI, Nat.add_sub_cancel, Nat.not_le, Nat.not_lt, Nat.not_lt_zero, Nat.le_refl, not_true_eq_false, not_false_eq_true, false_imp_iff, true_imp_iff, forall_const, implies_true, Nat.reduceEqDiff, Nat.reduceLeDiff, Nat.reduceLT, Nat.le_zero, Nat.succ_ne_zero] <;> first | omega | exact M'
  exact V27 S (L (2 ^ n - 1) h none none none (by omega) Same.rf (fun _ _ => rfl) (fun t h1 h2 => by omega))
end DYC

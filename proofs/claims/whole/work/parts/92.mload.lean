/-! load of the model -/
theorem V145 {h : pm_H} {Q : Option Value → pm_H → Prop} {x : Int32} {d2 : Option Value} {d3 : Option Value} (S : SK h) (k2 : (x < 0) → Q (some (.int (Int32.ofInt (-1)))) (yI (yI (yI h 35 1 (Int32.ofInt 0)) 35 0 (Int32.ofInt 0)) 35 0 (Int32.ofInt 2))) (k4 : (¬ x < 0) → (x ≤ (zI h 35 3)) → WP 128 0 [some (.ref 35), none] [] (yI (yI (yI (yI (yI (yI (yI (yI h 35 1 (Int32.ofInt 0)) 35 0 (Int32.ofInt 0)) 35 4 x) 35 3 (Int32.ofInt 0)) 35 11 (Int32.ofInt 0)) 35 7 (Int32.ofInt 0)) 35 17 (Int32.ofInt 0)) 35 18 (Int32.ofInt 0)) (fun v1 h1 => WP 145 62 [some (.ref 35), some (.int x), d2, d3] (v1.toList ++ []) h1 Q)) (k5 : (¬ x < 0) → (¬ x ≤ (zI h 35 3)) → Q (some (.int (Int32.ofInt (-1)))) (yI (yI (yI h 35 1 (Int32.ofInt 0)) 35 0 (Int32.ofInt 0)) 35 0 (Int32.ofInt 2))) : WP 145 0 [some (.ref 35), some (.int x), d2, d3] [] h Q :=
  B145_0 (S.T 35) (fun c1 => B145_22 (S.T 35) (B123_0 (S.T 35) (B145_27 (k2 c1)))) (fun c1 => B145_14 (S.T 35) (fun c3 => B145_28 (S.T 35) (k4 c1 c3)) (fun c3 => B145_22 (S.T 35) (B123_0 (S.T 35) (B145_27 (k5 c1 c3)))))
theorem V145a {h : pm_H} {Q : Option Value → pm_H → Prop} {x : Int32} {d2 : Option Value} {d3 : Option Value} (S : SK h) (k2 : (¬ (zI h 35 7) = 0) → WP 145 96 [some (.ref 35), some (.int x), d2, d3] [] h Q) (k3 : ((zI h 35 7) = 0) → WP 131 0 [some (.ref 35)] [] h (fun v1 h1 => WP 145 73 [some (.ref 35), some (.int x), d2, d3] (v1.toList ++ []) h1 Q)) : WP 145 62 [some (.ref 35), some (.int x), d2, d3] [] h Q :=
  B145_62 (S.T 35) (fun c1 => k2 c1) (fun c1 => B145_69 (S.T 35) (k3 c1))
theorem V145b {h : pm_H} {Q : Option Value → pm_H → Prop} {x : Int32} {b : Int32} {d2 : Option Value} {d3 : Option Value} (S : SK h) (k2 : (b = 0) → WP 145 96 [some (.ref 35), some (.int x), d2, d3] [] h Q) (k3 : (¬ b = 0) → WP 140 0 [some (.ref 35), none, none, none, none, none, none, none, none] [] h (fun v1 h1 => WP 145 80 [some (.ref 35), some (.int x), d2, d3] (v1.toList ++ []) h1 Q)) : WP 145 73 [some (.ref 35), some (.int x), d2, d3] [.int b] h Q :=
  B145_73 (fun c1 => k2 c1) (fun c1 => B145_76 (S.T 35) (k3 c1))
theorem V145c {h : pm_H} {Q : Option Value → pm_H → Prop} {x : Int32} {d2 : Option Value} {d3 : Option Value} (S : SK h) (k2 : (¬ (zI h 35 7) = 0) → WP 145 62 [some (.ref 35), some (.int x), d2, d3] [] h Q) (k3 : ((zI h 35 7) = 0) → WP 138 0 [some (.ref 35), some (.int (Int32.ofInt 59))] [] h (fun v1 h1 => WP 145 93 [some (.ref 35), some (.int x), d2, d3] (v1.toList ++ []) h1 Q)) : WP 145 80 [some (.ref 35), some (.int x), d2, d3] [] h Q :=
  B145_80 (S.T 35) (fun c1 => k2 c1) (fun c1 => B145_87 (S.T 35) (k3 c1))
theorem V145d {h : pm_H} {Q : Option Value → pm_H → Prop} {x : Int32} {d2 : Option Value} {d3 : Option Value} (S : SK h) (k1 : WP 145 62 [some (.ref 35), some (.int x), d2, d3] [] h Q) : WP 145 93 [some (.ref 35), some (.int x), d2, d3] [] h Q :=
  B145_93 (k1)
theorem V145e {h : pm_H} {Q : Option Value → pm_H → Prop} {x : Int32} {d2 : Option Value} {d3 : Option Value} (S : SK h) (k2 : (¬ (zI h 35 7) = 0) → WP 145 130 [some (.ref 35), some (.int x), d2, d3] [] h Q) (k3 : ((zI h 35 7) = 0) → WP 132 0 [some (.ref 35)] [] h (fun v1 h1 => WP 145 107 [some (.ref 35), some (.int x), d2, d3] (v1.toList ++ []) h1 Q)) : WP 145 96 [some (.ref 35), some (.int x), d2, d3] [] h Q :=
  B145_96 (S.T 35) (fun c1 => k2 c1) (fun c1 => B145_103 (S.T 35) (k3 c1))
theorem V145f {h : pm_H} {Q : Option Value → pm_H → Prop} {x : Int32} {b : Int32} {d2 : Option Value} {d3 : Option Value} (S : SK h) (k2 : (b = 0) → WP 145 130 [some (.ref 35), some (.int x), d2, d3] [] h Q) (k3 : (¬ b = 0) → WP 142 0 [some (.ref 35), none, none, none, none, none] [] h (fun v1 h1 => WP 145 114 [some (.ref 35), some (.int x), d2, d3] (v1.toList ++ []) h1 Q)) : WP 145 107 [some (.ref 35), some (.int x), d2, d3] [.int b] h Q :=
  B145_107 (fun c1 => k2 c1) (fun c1 => B145_110 (S.T 35) (k3 c1))
theorem V145g {h : pm_H} {Q : Option Value → pm_H → Prop} {x : Int32} {d2 : Option Value} {d3 : Option Value} (S : SK h) (k2 : (¬ (zI h 35 7) = 0) → WP 145 96 [some (.ref 35), some (.int x), d2, d3] [] h Q) (k3 : ((zI h 35 7) = 0) → WP 138 0 [some (.ref 35), some (.int (Int32.ofInt 59))] [] h (fun v1 h1 => WP 145 127 [some (.ref 35), some (.int x), d2, d3] (v1.toList ++ []) h1 Q)) : WP 145 114 [some (.ref 35), some (.int x), d2, d3] [] h Q :=
  B145_114 (S.T 35) (fun c1 => k2 c1) (fun c1 => B145_121 (S.T 35) (k3 c1))
theorem V145h {h : pm_H} {Q : Option Value → pm_H → Prop} {x : Int32} {d2 : Option Value} {d3 : Option Value} (S : SK h) (k1 : WP 145 96 [some (.ref 35), some (.int x), d2, d3] [] h Q) : WP 145 127 [some (.ref 35), some (.int x), d2, d3] [] h Q :=
  B145_127 (k1)
theorem V145i {h : pm_H} {Q : Option Value → pm_H → Prop} {x : Int32} {d2 : Option Value} {d3 : Option Value} (S : SK h) (k2 : (¬ (zI h 35 7) = 0) → WP 145 148 [some (.ref 35), some (.int x), d2, d3] [] h Q) (k4 : ((zI h 35 7) = 0) → ((zI h 35 9) = 0) → WP 145 148 [some (.ref 35), some (.int x), d2, d3] [] h Q) (k5 : ((zI h 35 7) = 0) → (¬ (zI h 35 9) = 0) → WP 137 0 [some (.ref 35)] [] h (fun v1 h1 => WP 145 148 [some (.ref 35), some (.int x), d2, d3] (v1.toList ++ []) h1 Q)) : WP 145 130 [some (.ref 35), some (.int x), d2, d3] [] h Q :=
  B145_130 (S.T 35) (fun c1 => k2 c1) (fun c1 => B145_137 (S.T 35) (fun c3 => k4 c1 c3) (fun c3 => B145_144 (S.T 35) (k5 c1 c3)))
theorem V145j {h : pm_H} {Q : Option Value → pm_H → Prop} {x : Int32} {d2 : Option Value} {d3 : Option Value} (S : SK h) (k2 : (¬ (zI h 35 7) = 0) → WP 145 172 [some (.ref 35), some (.int x), d2, d3] [.int (zI h 35 8), .ref 35] (yI h 35 5 (zI h 35 7)) Q) (k3 : ((zI h 35 7) = 0) → WP 145 172 [some (.ref 35), some (.int x), d2, d3] [.int (Int32.ofInt (-1)), .ref 35] (yI h 35 5 (zI h 35 7)) Q) : WP 145 148 [some (.ref 35), some (.int x), d2, d3] [] h Q :=
  B145_148 (S.T 35) (fun c1 => B145_168 (S.T 35) (k2 c1)) (fun c1 => B145_164 (k3 c1))
theorem V145k {h : pm_H} {Q : Option Value → pm_H → Prop} {x : Int32} {v : Int32} {d2 : Option Value} {d3 : Option Value} (S : SK h) (k2 : ((zI h 35 7) ≤ 0) → WP 145 206 [some (.ref 35), some (.int x), some (.int (Int32.ofInt 0)), d3] [] (yI (yI (yI h 35 6 v) 35 15 (zI h 35 17)) 35 16 (zI h 35 18)) Q) (k3 : (¬ (zI h 35 7) ≤ 0) → Q (some (.int (Int32.ofInt (-1)))) (yI (yI h 35 6 v) 35 0 (Int32.ofInt 4))) : WP 145 172 [some (.ref 35), some (.int x), d2, d3] [.int v, .ref 35] h Q :=
  B145_172 (S.T 35) (S.T 35) (fun c1 => B145_188 (S.T 35) (k2 c1)) (fun c1 => B145_182 (S.T 35) (B123_0 (S.T 35) (B145_187 (k3 c1))))
theorem V145l {h : pm_H} {Q : Option Value → pm_H → Prop} {x : Int32} {d3 : Option Value} {s : Nat} (S : SK h) (k2 : ((zI h 35 15) ≤ (nI s)) → WP 145 288 [some (.ref 35), some (.int x), some (.int (Int32.ofInt 0)), d3] [] h Q) (g3 : (¬ (zI h 35 15) ≤ (nI s)) → vp_in (nI s) 12) (g4 : (¬ (zI h 35 15) ≤ (nI s)) → vp_in (nI s) 12) (g5 : (¬ (zI h 35 15) ≤ (nI s)) → vp_in (nI s) 12) (g6 : (¬ (zI h 35 15) ≤ (nI s)) → vp_in (nI s) 12) (k7 : (¬ (zI h 35 15) ≤ (nI s)) → WP 145 240 [some (.ref 35), some (.int x), some (.int (nI s)), some (.int (Int32.ofInt 0))] [] (yI (yI h 37 ((nI s)).toNatClampNeg (zI h 47 ((nI s)).toNatClampNeg)) 38 ((nI s)).toNatClampNeg (zI h 48 ((nI s)).toNatClampNeg)) Q) : WP 145 206 [some (.ref 35), some (.int x), some (.int (nI s)), d3] [] h Q :=
  B145_206 (S.T 35) (fun c1 => B145_286 (k2 c1)) (fun c1 => B145_214 (S.T 35) (S.R 35 19) (S.R 35 29) ⟨(S.T 47), (S.bd 47 (g3 c1))⟩ ⟨(S.T 37), (S.bd 37 (g4 c1))⟩ (S.R 35 20) (S.R 35 30) ⟨(S.T 48), (S.bd 48 (g5 c1))⟩ ⟨(S.T 38), (S.bd 38 (g6 c1))⟩ (k7 c1))
theorem V145m {h : pm_H} {Q : Option Value → pm_H → Prop} {x : Int32} {s : Nat} {k : Nat} (S : SK h) (g1 : vp_in (nI s) 12) (k3 : ((zI h 38 ((nI s)).toNatClampNeg) ≤ (nI k)) → WP 145 206 [some (.ref 35), some (.int x), some (.int ((nI s) + (Int32.ofInt 1))), some (.int (nI k))] [] h Q) (g4 : (¬ (zI h 38 ((nI s)).toNatClampNeg) ≤ (nI k)) → vp_in (((Int32.ofInt 400) * (nI s)) + (nI k)) 4800) (g5 : (¬ (zI h 38 ((nI s)).toNatClampNeg) ≤ (nI k)) → vp_in (((Int32.ofInt 400) * (nI s)) + (nI k)) 4800) (k6 : (¬ (zI h 38 ((nI s)).toNatClampNeg) ≤ (nI k)) → WP 145 240 [some (.ref 35), some (.int x), some (.int (nI s)), some (.int ((nI k) + (Int32.ofInt 1)))] [] (yI h 45 ((((Int32.ofInt 400) * (nI s)) + (nI k))).toNatClampNeg (zI h 46 ((((Int32.ofInt 400) * (nI s)) + (nI k))).toNatClampNeg).toInt8.toInt32) Q) : WP 145 240 [some (.ref 35), some (.int x), some (.int (nI s)), some (.int (nI k))] [] h Q :=
  B145_240 (S.T 35) (S.R 35 20) ⟨(S.T 38), (S.bd 38 g1)⟩ (fun c2 => B145_280 (k3 c2)) (fun c2 => B145_250 (S.T 35) (S.R 35 27) (S.R 35 28) ⟨(S.T 46), (S.bd 46 (g4 c2))⟩ ⟨(S.T 45), (S.bd 45 (g5 c2))⟩ (k6 c2))
theorem V145n {h : pm_H} {Q : Option Value → pm_H → Prop} {x : Int32} {d3 : Option Value} {c : Nat} (S : SK h) (k2 : ((zI h 35 16) ≤ (nI c)) → Q (some (.int (zI h 35 15))) h) (g3 : (¬ (zI h 35 16) ≤ (nI c)) → vp_in (nI c) 6) (g4 : (¬ (zI h 35 16) ≤ (nI c)) → vp_in (nI c) 6) (g5 : (¬ (zI h 35 16) ≤ (nI c)) → vp_in (nI c) 6) (g6 : (¬ (zI h 35 16) ≤ (nI c)) → vp_in (nI c) 6) (k7 : (¬ (zI h 35 16) ≤ (nI c)) → WP 145 325 [some (.ref 35), some (.int x), some (.int (nI c)), some (.int ((Int32.ofInt 12) * (nI c)))] [] (yI (yI h 39 ((nI c)).toNatClampNeg (zI h 49 ((nI c)).toNatClampNeg)) 40 ((nI c)).toNatClampNeg (zI h 50 ((nI c)).toNatClampNeg)) Q) : WP 145 288 [some (.ref 35), some (.int x), some (.int (nI c)), d3] [] h Q :=
  B145_288 (S.T 35) (fun c1 => B145_388 (S.T 35) (k2 c1)) (fun c1 => B145_296 (S.T 35) (S.R 35 21) (S.R 35 31) ⟨(S.T 49), (S.bd 49 (g3 c1))⟩ ⟨(S.T 39), (S.bd 39 (g4 c1))⟩ (S.R 35 22) (S.R 35 32) ⟨(S.T 50), (S.bd 50 (g5 c1))⟩ ⟨(S.T 40), (S.bd 40 (g6 c1))⟩ (k7 c1))
theorem V145o {h : pm_H} {Q : Option Value → pm_H → Prop} {x : Int32} {c : Nat} {k : Nat} (S : SK h) (g1 : vp_in (nI c) 6) (k3 : ((((Int32.ofInt 12) * (nI c)) + (zI h 40 ((nI c)).toNatClampNeg)) ≤ (nI k)) → WP 145 288 [some (.ref 35), some (.int x), some (.int ((nI c) + (Int32.ofInt 1))), some (.int (nI k))] [] h Q) (g4 : (¬ (((Int32.ofInt 12) * (nI c)) + (zI h 40 ((nI c)).toNatClampNeg)) ≤ (nI k)) → vp_in (nI k) 72) (g5 : (¬ (((Int32.ofInt 12) * (nI c)) + (zI h 40 ((nI c)).toNatClampNeg)) ≤ (nI k)) → vp_in (nI k) 72) (g6 : (¬ (((Int32.ofInt 12) * (nI c)) + (zI h 40 ((nI c)).toNatClampNeg)) ≤ (nI k)) → vp_in (nI k) 72) (g7 : (¬ (((Int32.ofInt 12) * (nI c)) + (zI h 40 ((nI c)).toNatClampNeg)) ≤ (nI k)) → vp_in (nI k) 72) (g8 : (¬ (((Int32.ofInt 12) * (nI c)) + (zI h 40 ((nI c)).toNatClampNeg)) ≤ (nI k)) → vp_in (nI k) 72) (g9 : (¬ (((Int32.ofInt 12) * (nI c)) + (zI h 40 ((nI c)).toNatClampNeg)) ≤ (nI k)) → (zI h 44 ((nI k)).toNatClampNeg) = 0 ∨ (zI h 44 ((nI k)).toNatClampNeg) = 1) (g10 : (¬ (((Int32.ofInt 12) * (nI c)) + (zI h 40 ((nI c)).toNatClampNeg)) ≤ (nI k)) → vp_in (nI k) 72) (k11 : (¬ (((Int32.ofInt 12) * (nI c)) + (zI h 40 ((nI c)).toNatClampNeg)) ≤ (nI k)) → WP 145 325 [some (.ref 35), some (.int x), some (.int (nI c)), some (.int ((nI k) + (Int32.ofInt 1)))] [] (yI (yI (yI h 41 ((nI k)).toNatClampNeg (zI h 51 ((nI k)).toNatClampNeg)) 42 ((nI k)).toNatClampNeg (zI h 52 ((nI k)).toNatClampNeg)) 43 ((nI k)).toNatClampNeg (zI h 44 ((nI k)).toNatClampNeg)) Q) : WP 145 325 [some (.ref 35), some (.int x), some (.int (nI c)), some (.int (nI k))] [] h Q :=
  B145_325 (S.T 35) (S.R 35 22) ⟨(S.T 40), (S.bd 40 g1)⟩ (fun c2 => B145_382 (k3 c2)) (fun c2 => B145_340 (S.T 35) (S.R 35 23) (S.R 35 33) ⟨(S.T 51), (S.bd 51 (g4 c2))⟩ ⟨(S.T 41), (S.bd 41 (g5 c2))⟩ (S.R 35 24) (S.R 35 34) ⟨(S.T 52), (S.bd 52 (g6 c2))⟩ ⟨(S.T 42), (S.bd 42 (g7 c2))⟩ (S.R 35 25) (S.R 35 26) ⟨(S.T 44), (S.bd 44 (g8 c2))⟩ ⟨(S.T 43), (g9 c2), (S.bd 43 (g10 c2))⟩ (k11 c2))
section MLD
variable {h : pm_H} {Q : Option Value → pm_H → Prop} {ch : Nat → Nat} {n : Nat} {x : Int32}
theorem mB96 (K : SK h) {k : Nat} {d2 d3 : Option Value} (hk : 1 ≤ k) (hk7 : k ≤ 7) (b7 : zI h 35 7 = nI k) (k0 : WP 145 148 [some (.ref 35), some (.int x), d2, d3] [] h Q) : WP 145 96 [some (.ref 35), some (.int x), d2, d3] [] h Q := by
  have A' : WP 145 130 [some (.ref 35), some (.int x), d2, d3] [] h Q := by
    refine V145i  K ?_ ?_ ?_ <;> simp (disch := omega) only [oi_l, oi_n, z_nI, nIA, nIM, nIS, nIlt, nIle, nIeq, nIC, vpI, Nat.add_sub_cancel, Nat.not_le, Nat.not_lt, Nat.not_lt_zero, Nat.le_refl, not_true_eq_false, not_false_eq_true, false_imp_iff, true_imp_iff, forall_const, implies_true, Nat.reduceEqDiff, Nat.reduceLeDiff, Nat.reduceLT, b7, show ¬ k = 0 by omega] <;> first | omega | exact k0
  refine V145e  K ?_ ?_ <;> simp (disch := omega) only [oi_l, oi_n, z_nI, nIA, nIM, nIS, nIlt, nIle, nIeq, nIC, vpI, Nat.add_sub_cancel, Nat.not_le, Nat.not_lt, Nat.not_lt_zero, Nat.le_refl, not_true_eq_false, not_false_eq_true, false_imp_iff, true_imp_iff, forall_const, implies_true, Nat.reduceEqDiff, Nat.reduceLeDiff, Nat.reduceLT, b7, show ¬ k = 0 by omega] <;> first | omega | exact A'
theorem mB62 (K : SK h) {k : Nat} {d2 d3 : Option Value} (hk : 1 ≤ k) (hk7 : k ≤ 7) (b7 : zI h 35 7 = nI k) (k0 : WP 145 148 [some (.ref 35), some (.int x), d2, d3] [] h Q) : WP 145 62 [some (.ref 35), some (.int x), d2, d3] [] h Q := by
  have A' := mB96 (x := x) K hk hk7 b7 k0
  refine V145a  K ?_ ?_ <;> simp (disch := omega) only [oi_l, oi_n, z_nI, nIA, nIM, nIS, nIlt, nIle, nIeq, nIC, vpI, Nat.add_sub_cancel, Nat.not_le, Nat.not_lt, Nat.not_lt_zero, Nat.le_refl, not_true_eq_false, not_false_eq_true, false_imp_iff, true_imp_iff, forall_const, implies_true, Nat.reduceEqDiff, Nat.reduceLeDiff, Nat.reduceLT, b7, show ¬ k = 0 by omega] <;> first | omega | exact A'
set_option maxHeartbeats 2000000 in
theorem m145B (K : SK h) (hn : n ≤ 800) (e4 : zI h 35 4 = nI n) (hch : CH h 36 ch n) :
    ∀ f i (S : List BkS) (C : List BkC) (g : pm_H) d2 d3, n < i + f → i ≤ n → MG h g → MT g ch n i → zI g 35 7 = nI 0 → MBk g (S, C) → bk_ok (S, C) → ¬ ((tkd ch n i = 1 ∧ tvl ch n i = 26) ∧ C.length = 0) →
      (∀ k p, rdB ch n f i S C = .inl (k, p) → 1 ≤ k → k ≤ 7 → ∀ g d2 d3, MG h g → zI g 35 7 = nI k → zI g 35 8 = nI p → WP 145 148 [some (.ref 35), some (.int x), d2, d3] [] g Q) →
      (∀ S' C', rdB ch n f i S C = .inr (S', C') → ∀ g d2 d3, MG h g → zI g 35 7 = nI 0 → MBk g (S', C') → bk_ok (S', C') → WP 145 148 [some (.ref 35), some (.int x), d2, d3] [] g Q) →
      WP 145 96 [some (.ref 35), some (.int x), d2, d3] [] g Q := by
  intro f
  induction f with
  | zero => intro i S C g d2 d3 h1 h2; omega
  | succ f ih =>
    intro i S C g d2 d3 h1 h2 mg mt e7 mb bo nst kb k0
    have b1 : S.length ≤ 12 := bo.1
    have b2 : C.length ≤ 6 := bo.2.1
    have nb := tnx_b (ch := ch) h2
    have pb := tpl_b (ch := ch) h2
    have t4 := tk_le (ch := ch) (n := n) (i := i)
    have Kg := mg.SK K
    have e4g : ∀ g, MG h g → zI g 35 4 = nI n := fun g m => by rw [m.2.1 4 (by omega) (by omega) (by omega)]; exact e4
    have hcg : ∀ g, MG h g → CH g 36 ch n := fun g m => hch.keep (m.1 36 (by decide) (by decide))
    have W : WP 132 0 [some (.ref 35)] [] g (fun v1 h1 => WP 145 107 [some (.ref 35), some (.int x), d2, d3] (v1.toList ++ []) h1 Q) := by
      refine c132 Kg mt ?_
      by_cases cl : tkd ch n i = 1 ∧ tvl ch n i = 27
      · rw [if_pos cl]
        have k0' : ¬ tkd ch n i = 0 := by omega
        have re : ∀ r, rdC ch n S C i (tnx ch n i) (tnx ch n (tnx ch n i)) = r → rdB ch n (f + 1) i S C = match r with | .inl e => .inl e | .inr (j, s) => rdB ch n f j S (C ++ [s]) := fun r er => by
          rw [rdB, if_neg k0', if_neg nst, if_pos cl, er]
          rcases r with e | ⟨j, s⟩ <;> rfl
        have A' : WP 142 0 [some (.ref 35), none, none, none, none, none] [] g (fun v1 h1 => WP 145 114 [some (.ref 35), some (.int x), d2, d3] (v1.toList ++ []) h1 Q) := by
          refine c142 Kg hn h2 (e4g g mg) (hcg g mg) mt e7 mb b1 (fun s hs => (bo.2.2.1 s hs).1) b2 (fun c hc => ⟨(bo.2.2.2 c hc).1, (bo.2.2.2 c hc).2.2.1⟩) (fun k p e g2 m2 b7 b8 hk => ?_) (fun i' c e hi' g2 m2 mt2 b7 mb2 => ?_)
          · have kn := rdC_k h2 e
            have m2' := mg.tr m2
            have B' := mB96 (d2 := d2) (d3 := d3) (m2'.SK K) kn.1 kn.2 b7 (kb k p (by rw [re _ e]) kn.1 kn.2 g2 d2 d3 m2' b7 b8)
            refine V145g  (m2'.SK K) ?_ ?_ <;> simp (disch := omega) only [oi_l, oi_n, z_nI, nIA, nIM, nIS, nIlt, nIle, nIeq, nIC, vpI, Nat.add_sub_cancel, Nat.not_le, Nat.not_lt, Nat.not_lt_zero, Nat.le_refl, not_true_eq_false, not_false_eq_true, false_imp_iff, true_imp_iff, forall_const, implies_true, Nat.reduceEqDiff, Nat.reduceLeDiff, Nat.reduceLT, b7, show ¬ k = 0 by omega] <;> first | omega | exact B'
          · have m2' := mg.tr m2
            have C' : WP 138 0 [some (.ref 35), some (.int (nI 59))] [] g2 (fun v1 h1 => WP 145 127 [some (.ref 35), some (.int x), d2, d3] (v1.toList ++ []) h1 Q) := by
              refine c138 (c := 59) (by decide) (m2'.SK K) hn hi' (e4g g2 m2') mt2 b7 (hcg g2 m2') (fun q g3 m3 c7 c8 => ?_) (fun q g3 t3 mt3 => ?_)
              · have m3' : MG h g3 := m2'.tr (m3.G (by simp))
                rw [if_neg q] at e
                have kn := rdC_k h2 e
                refine V145h (m3'.SK K) (mB96 (m3'.SK K) kn.1 kn.2 c7 (kb _ _ (by rw [re _ e]) kn.1 kn.2 g3 d2 d3 m3' c7 c8))
              · have m3' : MG h g3 := m2'.tr ((MF.T (L := []) t3).G (by simp))
                rw [if_pos q] at e
                obtain ⟨o1, o2, o3, o4, o5⟩ := rdC_ok h2 k0' e
                have re' := re _ e
                simp only at re'
                have len : (C ++ [c]).length = C.length + 1 := by simp
                refine V145h (m3'.SK K) ?_
                exact ih (tnx ch n i') S (C ++ [c]) g3 d2 d3 (by omega) o2 m3' mt3 (by rw [t3.2.1 7 (by omega)]; exact b7) (mb2.T t3) (bk_pC bo o4 o3) (by rw [len]; omega) (by rw [← re']; exact kb) (by rw [← re']; exact k0)
            refine V145g  (m2'.SK K) ?_ ?_ <;> simp (disch := omega) only [oi_l, oi_n, z_nI, nIA, nIM, nIS, nIlt, nIle, nIeq, nIC, vpI, Nat.add_sub_cancel, Nat.not_le, Nat.not_lt, Nat.not_lt_zero, Nat.le_refl, not_true_eq_false, not_false_eq_true, false_imp_iff, true_imp_iff, forall_const, implies_true, Nat.reduceEqDiff, Nat.reduceLeDiff, Nat.reduceLT, b7] <;> first | omega | exact C'
        refine V145f  Kg ?_ ?_ <;> simp (disch := omega) only [oi_l, oi_n, z_nI, nIA, nIM, nIS, nIlt, nIle, nIeq, nIC, vpI, Nat.add_sub_cancel, Nat.not_le, Nat.not_lt, Nat.not_lt_zero, Nat.le_refl, not_true_eq_false, not_false_eq_true, false_imp_iff, true_imp_iff, forall_const, implies_true, Nat.reduceEqDiff, Nat.reduceLeDiff, Nat.reduceLT] <;> first | omega | exact A'
      · rw [if_neg cl]
        have B' : WP 145 130 [some (.ref 35), some (.int x), d2, d3] [] g Q := by
          by_cases k0' : tkd ch n i = 0
          · have C' := k0 S C (by rw [rdB, if_pos k0']) g d2 d3 mg e7 mb bo
            have m9 := mt.1
            rw [k0'] at m9
            refine V145i  Kg ?_ ?_ ?_ <;> simp (disch := omega) only [oi_l, oi_n, z_nI, nIA, nIM, nIS, nIlt, nIle, nIeq, nIC, vpI, Nat.add_sub_cancel, Nat.not_le, Nat.not_lt, Nat.not_lt_zero, Nat.le_refl, not_true_eq_false, not_false_eq_true, false_imp_iff, true_imp_iff, forall_const, implies_true, Nat.reduceEqDiff, Nat.reduceLeDiff, Nat.reduceLT, e7, m9] <;> first | omega | exact C'
          · have re : rdB ch n (f + 1) i S C = .inl (wrg ch n i) := by rw [rdB, if_neg k0', if_neg nst, if_neg cl]
            have c1 := cs1_b (ch := ch) (n := n) (i := i)
            have C' : WP 137 0 [some (.ref 35)] [] g (fun v1 h1 => WP 145 148 [some (.ref 35), some (.int x), d2, d3] (v1.toList ++ []) h1 Q) := c137 Kg mt e7 (fun g2 m2 _ _ b7 b8 => kb _ _ re c1.1 (by omega) g2 d2 d3 (mg.tr (m2.G (by simp))) b7 b8)
            have m9 := mt.1
            refine V145i  Kg ?_ ?_ ?_ <;> simp (disch := omega) only [oi_l, oi_n, z_nI, nIA, nIM, nIS, nIlt, nIle, nIeq, nIC, vpI, Nat.add_sub_cancel, Nat.not_le, Nat.not_lt, Nat.not_lt_zero, Nat.le_refl, not_true_eq_false, not_false_eq_true, false_imp_iff, true_imp_iff, forall_const, implies_true, Nat.reduceEqDiff, Nat.reduceLeDiff, Nat.reduceLT, e7, m9, k0'] <;> first | omega | exact C'
        refine V145f  Kg ?_ ?_ <;> simp (disch := omega) only [oi_l, oi_n, z_nI, nIA, nIM, nIS, nIlt, nIle, nIeq, nIC, vpI, Nat.add_sub_cancel, Nat.not_le, Nat.not_lt, Nat.not_lt_zero, Nat.le_refl, not_true_eq_false, not_false_eq_true, false_imp_iff, true_imp_iff, forall_const, implies_true, Nat.reduceEqDiff, Nat.reduceLeDiff, Nat.reduceLT] <;> first | omega | exact B'
    refine V145e  Kg ?_ ?_ <;> simp (disch := omega) only [oi_l, oi_n, z_nI, nIA, nIM, nIS, nIlt, nIle, nIeq, nIC, vpI, Nat.add_sub_cancel, Nat.not_le, Nat.not_lt, Nat.not_lt_zero, Nat.le_refl, not_true_eq_false, not_false_eq_true, false_imp_iff, true_imp_iff, forall_const, implies_true, Nat.reduceEqDiff, Nat.reduceLeDiff, Nat.reduceLT, e7] <;> first | omega | exact W
set_option maxHeartbeats 2000000 in
theorem m145A (K : SK h) (hn : n ≤ 800) (e4 : zI h 35 4 = nI n) (hch : CH h 36 ch n) :
    ∀ f i (S : List BkS) (g : pm_H) d2 d3, n < i + f → i ≤ n → MG h g → MT g ch n i → zI g 35 7 = nI 0 → MBk g (S, []) → bk_ok (S, []) →
      (∀ k p, rdB ch n f i S [] = .inl (k, p) → 1 ≤ k → k ≤ 7 → ∀ g d2 d3, MG h g → zI g 35 7 = nI k → zI g 35 8 = nI p → WP 145 148 [some (.ref 35), some (.int x), d2, d3] [] g Q) →
      (∀ S' C', rdB ch n f i S [] = .inr (S', C') → ∀ g d2 d3, MG h g → zI g 35 7 = nI 0 → MBk g (S', C') → bk_ok (S', C') → WP 145 148 [some (.ref 35), some (.int x), d2, d3] [] g Q) →
      WP 145 62 [some (.ref 35), some (.int x), d2, d3] [] g Q := by
  intro f
  induction f with
  | zero => intro i S g d2 d3 h1 h2; omega
  | succ f ih =>
    intro i S g d2 d3 h1 h2 mg mt e7 mb bo kb k0
    have b1 : S.length ≤ 12 := bo.1
    have nb := tnx_b (ch := ch) h2
    have pb := tpl_b (ch := ch) h2
    have Kg := mg.SK K
    have e4g : ∀ g, MG h g → zI g 35 4 = nI n := fun g m => by rw [m.2.1 4 (by omega) (by omega) (by omega)]; exact e4
    have hcg : ∀ g, MG h g → CH g 36 ch n := fun g m => hch.keep (m.1 36 (by decide) (by decide))
    have W : WP 131 0 [some (.ref 35)] [] g (fun v1 h1 => WP 145 73 [some (.ref 35), some (.int x), d2, d3] (v1.toList ++ []) h1 Q) := by
      refine c131 Kg mt ?_
      by_cases st : tkd ch n i = 1 ∧ tvl ch n i = 26
      · rw [if_pos st]
        have k0' : ¬ tkd ch n i = 0 := by omega
        have re : ∀ r, rdS ch n S i (tnx ch n i) (tnx ch n (tnx ch n i)) = r → rdB ch n (f + 1) i S [] = match r with | .inl e => .inl e | .inr (j, s) => rdB ch n f j (S ++ [s]) [] := fun r er => by
          rw [rdB, if_neg k0', if_pos ⟨st, rfl⟩, er]
          rcases r with e | ⟨j, s⟩ <;> rfl
        have A' : WP 140 0 [some (.ref 35), none, none, none, none, none, none, none, none] [] g (fun v1 h1 => WP 145 80 [some (.ref 35), some (.int x), d2, d3] (v1.toList ++ []) h1 Q) := by
          refine c140 Kg hn h2 (e4g g mg) (hcg g mg) mt e7 mb b1 (fun s hs => ⟨(bo.2.2.1 s hs).1, (bo.2.2.1 s hs).2.2.1⟩) (fun k p e g2 m2 b7 b8 hk => ?_) (fun i' s e hi' g2 m2 mt2 b7 mb2 s4 s8 => ?_)
          · have kn := rdS_k h2 e
            have m2' := mg.tr (m2.G (fun a ha => ha))
            have B' := mB62 (d2 := d2) (d3 := d3) (m2'.SK K) kn.1 kn.2 b7 (kb k p (by rw [re _ e]) kn.1 kn.2 g2 d2 d3 m2' b7 b8)
            refine V145c  (m2'.SK K) ?_ ?_ <;> simp (disch := omega) only [oi_l, oi_n, z_nI, nIA, nIM, nIS, nIlt, nIle, nIeq, nIC, vpI, Nat.add_sub_cancel, Nat.not_le, Nat.not_lt, Nat.not_lt_zero, Nat.le_refl, not_true_eq_false, not_false_eq_true, false_imp_iff, true_imp_iff, forall_const, implies_true, Nat.reduceEqDiff, Nat.reduceLeDiff, Nat.reduceLT, b7, show ¬ k = 0 by omega] <;> first | omega | exact B'
          · have m2' := mg.tr (m2.G (fun a ha => ha))
            have C' : WP 138 0 [some (.ref 35), some (.int (nI 59))] [] g2 (fun v1 h1 => WP 145 93 [some (.ref 35), some (.int x), d2, d3] (v1.toList ++ []) h1 Q) := by
              refine c138 (c := 59) (by decide) (m2'.SK K) hn hi' (e4g g2 m2') mt2 b7 (hcg g2 m2') (fun q g3 m3 c7 c8 => ?_) (fun q g3 t3 mt3 => ?_)
              · have m3' : MG h g3 := m2'.tr (m3.G (by simp))
                rw [if_neg q] at e
                have kn := rdS_k h2 e
                refine V145d (m3'.SK K) (mB62 (m3'.SK K) kn.1 kn.2 c7 (kb _ _ (by rw [re _ e]) kn.1 kn.2 g3 d2 d3 m3' c7 c8))
              · have m3' : MG h g3 := m2'.tr ((MF.T (L := []) t3).G (by simp))
                rw [if_pos q] at e
                obtain ⟨o1, o2, o3, o4, o5, o6⟩ := rdS_ok h2 k0' e
                have re' := re _ e
                simp only at re'
                refine V145d (m3'.SK K) ?_
                exact ih (tnx ch n i') (S ++ [s]) g3 d2 d3 (by omega) o2 m3' mt3 (by rw [t3.2.1 7 (by omega)]; exact b7) (mb2.T t3) (bk_pS bo o5 ⟨o3, o4, s4, gD8' s8⟩) (by rw [← re']; exact kb) (by rw [← re']; exact k0)
            refine V145c  (m2'.SK K) ?_ ?_ <;> simp (disch := omega) only [oi_l, oi_n, z_nI, nIA, nIM, nIS, nIlt, nIle, nIeq, nIC, vpI, Nat.add_sub_cancel, Nat.not_le, Nat.not_lt, Nat.not_lt_zero, Nat.le_refl, not_true_eq_false, not_false_eq_true, false_imp_iff, true_imp_iff, forall_const, implies_true, Nat.reduceEqDiff, Nat.reduceLeDiff, Nat.reduceLT, b7] <;> first | omega | exact C'
        refine V145b  Kg ?_ ?_ <;> simp (disch := omega) only [oi_l, oi_n, z_nI, nIA, nIM, nIS, nIlt, nIle, nIeq, nIC, vpI, Nat.add_sub_cancel, Nat.not_le, Nat.not_lt, Nat.not_lt_zero, Nat.le_refl, not_true_eq_false, not_false_eq_true, false_imp_iff, true_imp_iff, forall_const, implies_true, Nat.reduceEqDiff, Nat.reduceLeDiff, Nat.reduceLT] <;> first | omega | exact A'
      · rw [if_neg st]
        have B' := m145B (x := x) K hn e4 hch (f + 1) i S [] g d2 d3 h1 h2 mg mt e7 mb bo (fun q => st q.1) kb k0
        refine V145b  Kg ?_ ?_ <;> simp (disch := omega) only [oi_l, oi_n, z_nI, nIA, nIM, nIS, nIlt, nIle, nIeq, nIC, vpI, Nat.add_sub_cancel, Nat.not_le, Nat.not_lt, Nat.not_lt_zero, Nat.le_refl, not_true_eq_false, not_false_eq_true, false_imp_iff, true_imp_iff, forall_const, implies_true, Nat.reduceEqDiff, Nat.reduceLeDiff, Nat.reduceLT] <;> first | omega | exact B'
    refine V145a  Kg ?_ ?_ <;> simp (disch := omega) only [oi_l, oi_n, z_nI, nIA, nIM, nIS, nIlt, nIle, nIeq, nIC, vpI, Nat.add_sub_cancel, Nat.not_le, Nat.not_lt, Nat.not_lt_zero, Nat.le_refl, not_true_eq_false, not_false_eq_true, false_imp_iff, true_imp_iff, forall_const, implies_true, Nat.reduceEqDiff, Nat.reduceLeDiff, Nat.reduceLT, e7] <;> first | omega | exact W
/-- the rows that the model's load copies to -/
def CPS (g : pm_H) (S : List BkS) (s : Nat) : Prop := ∀ s' (hs : s' < S.length), s' < s → zI g 37 s' = nI (S[s'].1 + 1) ∧ zI g 38 s' = nI S[s'].2.length ∧ ∀ k, k < S[s'].2.length → zI g 45 (400 * s' + k) = nI (S[s'].2.getD k 0)
def CPC (g : pm_H) (C : List BkC) (c : Nat) : Prop := ∀ c' (hc : c' < C.length), c' < c → zI g 39 c' = nI (C[c'].1 + 1) ∧ zI g 40 c' = nI C[c'].2.length ∧ ∀ k (hk : k < C[c'].2.length), zI g 41 (12 * c' + k) = nI C[c'].2[k].1 ∧ zI g 42 (12 * c' + k) = nI C[c'].2[k].2.1 ∧ zI g 43 (12 * c' + k) = bI C[c'].2[k].2.2
theorem b01 (t : Bool) : bI t = 0 ∨ bI t = 1 := bI01 t
set_option maxHeartbeats 2000000 in
theorem m145C {S : List BkS} {C : List BkC} (K : SK h) (mb : MBk h (S, C)) (bo : bk_ok (S, C)) (e15 : zI h 35 15 = nI S.length) (e16 : zI h 35 16 = nI C.length) (d3 : Option Value)
    (k0 : ∀ g, Same [37, 38, 39, 40, 41, 42, 43, 45] h g → CPS g S S.length → CPC g C C.length → Q (some (.int (nI S.length))) g) : WP 145 206 [some (.ref 35), some (.int x), some (.int (nI 0)), d3] [] h Q := by
  have b1 : S.length ≤ 12 := bo.1
  have b2 : C.length ≤ 6 := bo.2.1
  obtain ⟨i1, i2, i3, i4⟩ := mb
  have x35 : ∀ g, Same [37, 38, 39, 40, 41, 42, 43, 45] h g → zI g 35 = zI h 35 := fun g s => s.1 35 (by decide)
  -- cloths
  have LC : ∀ r c (g : pm_H) d3, c + r = C.length → Same [37, 38, 39, 40, 41, 42, 43, 45] h g → CPS g S S.length → CPC g C c → WP 145 288 [some (.ref 35), some (.int x), some (.int (nI c)), d3] [] g Q := by
    intro r
    induction r with
    | zero =>
      intro c g d3 hc sg ps pc
      obtain rfl : c = C.length := by omega
      have k' := k0 g sg ps pc
      have q15 : zI g 35 15 = nI S.length := by rw [x35 g sg]; exact e15
      have q16 : zI g 35 16 = nI C.length := by rw [x35 g sg]; exact e16
      refine V145n  (sg.SK K) ?_ ?_ ?_ ?_ ?_ ?_ <;> simp (disch := omega) only [oi_l, oi_n, z_nI, nIA, nIM, nIS, nIlt, nIle, nIeq, nIC, vpI, Nat.add_sub_cancel, Nat.not_le, Nat.not_lt, Nat.not_lt_zero, Nat.le_refl, not_true_eq_false, not_false_eq_true, false_imp_iff, true_imp_iff, forall_const, implies_true, Nat.reduceEqDiff, Nat.reduceLeDiff, Nat.reduceLT, q15, q16] <;> first | omega | exact k'
    | succ r ih =>
      intro c g d3 hc sg ps pc
      have hcl : c < C.length := by omega
      have q16 : zI g 35 16 = nI C.length := by rw [x35 g sg]; exact e16
      obtain ⟨j1, j2, j3⟩ := i4 c hcl
      have j1' : zI h 49 c = nI (C[c].1 + 1) := j1
      have j2' : zI h 50 c = nI C[c].2.length := j2
      rw [← sg.1 49 (by decide)] at j1'
      rw [← sg.1 50 (by decide)] at j2'
      obtain ⟨o1, o2, o3, o4⟩ := bo.2.2.2 C[c] (List.getElem_mem hcl)
      have L2 : ∀ r k (g' : pm_H), k + r = C[c].2.length → Same [37, 38, 39, 40, 41, 42, 43, 45] h g' → CPS g' S S.length → CPC g' C c → zI g' 39 c = nI (C[c].1 + 1) → zI g' 40 c = nI C[c].2.length → (∀ k' (hk : k' < C[c].2.length), k' < k → zI g' 41 (12 * c + k') = nI C[c].2[k'].1 ∧ zI g' 42 (12 * c + k') = nI C[c].2[k'].2.1 ∧ zI g' 43 (12 * c + k') = bI C[c].2[k'].2.2) → WP 145 325 [some (.ref 35), some (.int x), some (.int (nI c)), some (.int (nI (12 * c + k)))] [] g' Q := by
        intro r
        induction r with
        | zero =>
          intro k g' hk sg' ps' pc' y39 y40 fk
          have I' := ih (c + 1) g' (some (.int (nI (12 * c + k)))) (by omega) sg' ps' (fun c' hc' hlt => by
            by_cases e : c' = c
            · subst e; exact ⟨y39, y40, fun k' hk' => fk k' hk' (by omega)⟩
            · exact pc' c' hc' (by omega))
          refine V145o  (sg'.SK K) ?_ ?_ ?_ ?_ ?_ ?_ ?_ ?_ ?_ ?_ <;> simp (disch := omega) only [oi_l, oi_n, z_nI, nIA, nIM, nIS, nIlt, nIle, nIeq, nIC, vpI, Nat.add_sub_cancel, Nat.not_le, Nat.not_lt, Nat.not_lt_zero, Nat.le_refl, not_true_eq_false, not_false_eq_true, false_imp_iff, true_imp_iff, forall_const, implies_true, Nat.reduceEqDiff, Nat.reduceLeDiff, Nat.reduceLT, y40, show 12 * c + C[c].2.length ≤ 12 * c + k by omega] <;> first | omega | exact I'
        | succ r ihr =>
          intro k g' hk sg' ps' pc' y39 y40 fk
          have hk' : k < C[c].2.length := by omega
          obtain ⟨l1, l2, l3⟩ := j3 k hk'
          have l1' : zI h 51 (12 * c + k) = nI C[c].2[k].1 := l1
          have l2' : zI h 52 (12 * c + k) = nI C[c].2[k].2.1 := l2
          have l3' : zI h 44 (12 * c + k) = bI C[c].2[k].2.2 := l3
          rw [← sg'.1 51 (by decide)] at l1'
          rw [← sg'.1 52 (by decide)] at l2'
          rw [← sg'.1 44 (by decide)] at l3'
          have bb := b01 C[c].2[k].2.2
          have I' := ihr (k + 1) (yI (yI (yI g' 41 (12 * c + k) (nI C[c].2[k].1)) 42 (12 * c + k) (nI C[c].2[k].2.1)) 43 (12 * c + k) (bI C[c].2[k].2.2)) (by omega) (((sg'.I 41 _ _ (by decide)).I 42 _ _ (by decide)).I 43 _ _ (by decide)) (fun s' hs' hlt => by simp only [zI_yI, Nat.reduceEqDiff, if_false]; exact ps' s' hs' hlt) (fun c' hc' hlt => by
            obtain ⟨u1, u2, u3⟩ := pc' c' hc' hlt
            have hl := (bo.2.2.2 C[c'] (List.getElem_mem hc')).2.2.1
            simp only [zI_yI, va_upA, Nat.reduceEqDiff, if_true, if_false]
            refine ⟨u1, u2, fun k2 hk2 => ?_⟩
            rw [if_neg (by omega), if_neg (by omega), if_neg (by omega)]
            exact u3 k2 hk2) (by simp only [zI_yI, Nat.reduceEqDiff, if_false]; exact y39) (by simp only [zI_yI, Nat.reduceEqDiff, if_false]; exact y40) (fun k2 hk2 hlt => by
            simp only [zI_yI, va_upA, Nat.reduceEqDiff, if_true, if_false]
            by_cases e : k2 = k
            · subst e
              rw [if_pos rfl, if_pos rfl, if_pos rfl]; exact ⟨rfl, rfl, rfl⟩
            · rw [if_neg (by omega), if_neg (by omega), if_neg (by omega)]; exact fk k2 hk2 (by omega))
          have eq1 : 12 * c + (k + 1) = 12 * c + k + 1 := by omega
          rw [eq1] at I'
          refine V145o  (sg'.SK K) ?_ ?_ ?_ ?_ ?_ ?_ ?_ ?_ ?_ ?_ <;> simp (disch := omega) only [oi_l, oi_n, z_nI, nIA, nIM, nIS, nIlt, nIle, nIeq, nIC, vpI, Nat.add_sub_cancel, Nat.not_le, Nat.not_lt, Nat.not_lt_zero, Nat.le_refl, not_true_eq_false, not_false_eq_true, false_imp_iff, true_imp_iff, forall_const, implies_true, Nat.reduceEqDiff, Nat.reduceLeDiff, Nat.reduceLT, y40, l1', l2', l3', show ¬ 12 * c + C[c].2.length ≤ 12 * c + k by omega] <;> first | omega | exact I' | exact bb
      have L' := L2 _ 0 (yI (yI g 39 c (nI (C[c].1 + 1))) 40 c (nI C[c].2.length)) (Nat.zero_add _) ((sg.I 39 _ _ (by decide)).I 40 _ _ (by decide)) (fun s' hs' hlt => by simp only [zI_yI, Nat.reduceEqDiff, if_false]; exact ps s' hs' hlt) (fun c' hc' hlt => by
        simp only [zI_yI, va_upA, Nat.reduceEqDiff, if_true, if_false]
        rw [if_neg (by omega), if_neg (by omega)]; exact pc c' hc' hlt) (by simp [zI_yI, va_upA]) (by simp [zI_yI, va_upA]) (fun k' _ hlt => absurd hlt (Nat.not_lt_zero _))
      rw [Nat.add_zero] at L'
      refine V145n  (sg.SK K) ?_ ?_ ?_ ?_ ?_ ?_ <;> simp (disch := omega) only [oi_l, oi_n, z_nI, nIA, nIM, nIS, nIlt, nIle, nIeq, nIC, vpI, Nat.add_sub_cancel, Nat.not_le, Nat.not_lt, Nat.not_lt_zero, Nat.le_refl, not_true_eq_false, not_false_eq_true, false_imp_iff, true_imp_iff, forall_const, implies_true, Nat.reduceEqDiff, Nat.reduceLeDiff, Nat.reduceLT, q16, j1', j2', show ¬ C.length ≤ c by omega] <;> first | omega | exact L'
  have LS : ∀ r s (g : pm_H) d3, s + r = S.length → Same [37, 38, 39, 40, 41, 42, 43, 45] h g → CPS g S s → WP 145 206 [some (.ref 35), some (.int x), some (.int (nI s)), d3] [] g Q := by
    intro r
    induction r with
    | zero =>
      intro s g d3 hs sg ps
      obtain rfl : s = S.length := by omega
      have q15 : zI g 35 15 = nI S.length := by rw [x35 g sg]; exact e15
      have C' := LC C.length 0 g d3 (Nat.zero_add _) sg ps (fun c' _ hlt => absurd hlt (Nat.not_lt_zero _))
      refine V145l  (sg.SK K) ?_ ?_ ?_ ?_ ?_ ?_ <;> simp (disch := omega) only [oi_l, oi_n, z_nI, nIA, nIM, nIS, nIlt, nIle, nIeq, nIC, vpI, Nat.add_sub_cancel, Nat.not_le, Nat.not_lt, Nat.not_lt_zero, Nat.le_refl, not_true_eq_false, not_false_eq_true, false_imp_iff, true_imp_iff, forall_const, implies_true, Nat.reduceEqDiff, Nat.reduceLeDiff, Nat.reduceLT, q15] <;> first | omega | exact C'
    | succ r ih =>
      intro s g d3 hs sg ps
      have hsl : s < S.length := by omega
      have q15 : zI g 35 15 = nI S.length := by rw [x35 g sg]; exact e15
      obtain ⟨j1, j2, j3⟩ := i3 s hsl
      have j1' : zI h 47 s = nI (S[s].1 + 1) := j1
      have j2' : zI h 48 s = nI S[s].2.length := j2
      rw [← sg.1 47 (by decide)] at j1'
      rw [← sg.1 48 (by decide)] at j2'
      obtain ⟨o1, o2, o3, o4⟩ := bo.2.2.1 S[s] (List.getElem_mem hsl)
      have L2 : ∀ r k (g' : pm_H), k + r = S[s].2.length → Same [37, 38, 39, 40, 41, 42, 43, 45] h g' → CPS g' S s → zI g' 37 s = nI (S[s].1 + 1) → zI g' 38 s = nI S[s].2.length → (∀ k', k' < k → zI g' 45 (400 * s + k') = nI (S[s].2.getD k' 0)) → WP 145 240 [some (.ref 35), some (.int x), some (.int (nI s)), some (.int (nI k))] [] g' Q := by
        intro r
        induction r with
        | zero =>
          intro k g' hk sg' ps' y37 y38 fk
          obtain rfl : k = S[s].2.length := by omega
          have I' := ih (s + 1) g' (some (.int (nI S[s].2.length))) (by omega) sg' (fun s' hs' hlt => by
            by_cases e : s' = s
            · subst e; exact ⟨y37, y38, fun k' hk' => fk k' hk'⟩
            · exact ps' s' hs' (by omega))
          refine V145m  (sg'.SK K) ?_ ?_ ?_ ?_ ?_ <;> simp (disch := omega) only [oi_l, oi_n, z_nI, nIA, nIM, nIS, nIlt, nIle, nIeq, nIC, vpI, Nat.add_sub_cancel, Nat.not_le, Nat.not_lt, Nat.not_lt_zero, Nat.le_refl, not_true_eq_false, not_false_eq_true, false_imp_iff, true_imp_iff, forall_const, implies_true, Nat.reduceEqDiff, Nat.reduceLeDiff, Nat.reduceLT, y38] <;> first | omega | exact I'
        | succ r ihr =>
          intro k g' hk sg' ps' y37 y38 fk
          have l1 : zI h 46 (400 * s + k) = nI (S[s].2.getD k 0) := j3 k (by show k < S[s].2.length; omega)
          rw [← sg'.1 46 (by decide)] at l1
          have c8 := gD8 o4 k
          have z := b8 c8
          have I' := ihr (k + 1) (yI g' 45 (400 * s + k) (nI (S[s].2.getD k 0))) (by omega) (sg'.I 45 _ _ (by decide)) (fun s' hs' hlt => by
            obtain ⟨u1, u2, u3⟩ := ps' s' hs' hlt
            have hl := (bo.2.2.1 S[s'] (List.getElem_mem hs')).2.2.1
            simp only [zI_yI, va_upA, Nat.reduceEqDiff, if_true, if_false]
            refine ⟨u1, u2, fun k2 hk2 => ?_⟩
            rw [if_neg (by omega)]
            exact u3 k2 hk2) (by simp only [zI_yI, Nat.reduceEqDiff, if_false]; exact y37) (by simp only [zI_yI, Nat.reduceEqDiff, if_false]; exact y38) (fun k2 hlt => by
            simp only [zI_yI, va_upA, Nat.reduceEqDiff, if_true, if_false]
            by_cases e : k2 = k
            · subst e
              rw [if_pos rfl]
            · rw [if_neg (by omega)]; exact fk k2 (by omega))
          refine V145m  (sg'.SK K) ?_ ?_ ?_ ?_ ?_ <;> simp (disch := omega) only [oi_l, oi_n, z_nI, nIA, nIM, nIS, nIlt, nIle, nIeq, nIC, vpI, Nat.add_sub_cancel, Nat.not_le, Nat.not_lt, Nat.not_lt_zero, Nat.le_refl, not_true_eq_false, not_false_eq_true, false_imp_iff, true_imp_iff, forall_const, implies_true, Nat.reduceEqDiff, Nat.reduceLeDiff, Nat.reduceLT, y38, l1, z, show ¬ S[s].2.length ≤ k by omega] <;> first | omega | exact I'
      have L' := L2 _ 0 (yI (yI g 37 s (nI (S[s].1 + 1))) 38 s (nI S[s].2.length)) (Nat.zero_add _) ((sg.I 37 _ _ (by decide)).I 38 _ _ (by decide)) (fun s' hs' hlt => by
        simp only [zI_yI, va_upA, Nat.reduceEqDiff, if_true, if_false]
        rw [if_neg (by omega), if_neg (by omega)]; exact ps s' hs' hlt) (by simp [zI_yI, va_upA]) (by simp [zI_yI, va_upA]) (fun k' hlt => absurd hlt (Nat.not_lt_zero _))
      refine V145l  (sg.SK K) ?_ ?_ ?_ ?_ ?_ ?_ <;> simp (disch := omega) only [oi_l, oi_n, z_nI, nIA, nIM, nIS, nIlt, nIle, nIeq, nIC, vpI, Nat.add_sub_cancel, Nat.not_le, Nat.not_lt, Nat.not_lt_zero, Nat.le_refl, not_true_eq_false, not_false_eq_true, false_imp_iff, true_imp_iff, forall_const, implies_true, Nat.reduceEqDiff, Nat.reduceLeDiff, Nat.reduceLT, q15, j1', j2', show ¬ S.length ≤ s by omega] <;> first | omega | exact L'
  exact LS S.length 0 h d3 (Nat.zero_add _) Same.rf (fun s' _ hlt => absurd hlt (Nat.not_lt_zero _))
end MLD

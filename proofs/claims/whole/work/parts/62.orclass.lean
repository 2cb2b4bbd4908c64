/-! BEST ORDER of the class -/
theorem V2 {h : pm_H} {Q : Option Value → pm_H → Prop} {q : Nat} {d4 : Option Value} {d5 : Option Value} {n : Nat} (S : SK h) (k1 : WP 2 3 [some (.ref 17), some (.ref q), some (.int (nI n)), some (.ref 11), some (.int (Int32.ofInt 0)), d5] [] h Q) : WP 2 0 [some (.ref 17), some (.ref q), some (.int (nI n)), some (.ref 11), d4, d5] [] h Q :=
  B2_0 (k1)
theorem V2L {h : pm_H} {Q : Option Value → pm_H → Prop} {q : Nat} {d5 : Option Value} {n : Nat} {i : Nat} (S : SK h) (k2 : ((nI n) ≤ (nI i)) → Q none h) (k3 : (¬ (nI n) ≤ (nI i)) → WP 2 12 [some (.ref 17), some (.ref q), some (.int (nI n)), some (.ref 11), some (.int (nI i)), some (.int (Int32.ofInt 0))] [] h Q) : WP 2 3 [some (.ref 17), some (.ref q), some (.int (nI n)), some (.ref 11), some (.int (nI i)), d5] [] h Q :=
  B2_3 (fun c1 => B2_65 (k2 c1)) (fun c1 => B2_9 (k3 c1))
theorem V2M {h : pm_H} {Q : Option Value → pm_H → Prop} {q : Nat} {n : Nat} {i : Nat} {j : Nat} {b4 : Nat} {b7 : Nat} {b10 : Nat} (S : SK h) (k2 : ((nI n) ≤ (nI j)) → WP 2 3 [some (.ref 17), some (.ref q), some (.int (nI n)), some (.ref 11), some (.int ((nI i) + (Int32.ofInt 1))), some (.int (nI j))] [] h Q) (t3 : (¬ (nI n) ≤ (nI j)) → zT h q = 3) (e5 : (¬ (nI n) ≤ (nI j)) → zR h q 1 = some b4) (g6 : (¬ (nI n) ≤ (nI j)) → (zT h b4 = 103 ∨ zT h b4 = 104 ∨ zT h b4 = 105) ∧ vp_in (nI i) (zN h b4)) (e8 : (¬ (nI n) ≤ (nI j)) → zR h b4 ((nI i)).toNatClampNeg = some b7) (g9 : (¬ (nI n) ≤ (nI j)) → (zT h b4 = 103 ∨ zT h b4 = 104 ∨ zT h b4 = 105) ∧ vp_in (nI j) (zN h b4)) (e11 : (¬ (nI n) ≤ (nI j)) → zR h b4 ((nI j)).toNatClampNeg = some b10) (k12 : (¬ (nI n) ≤ (nI j)) → WP 51 0 [some (.ref 11), some (.ref b7), some (.ref b10)] [] h (fun v1 h1 => WP 2 36 [some (.ref 17), some (.ref q), some (.int (nI n)), some (.ref 11), some (.int (nI i)), some (.int (nI j))] (v1.toList ++ []) h1 Q)) : WP 2 12 [some (.ref 17), some (.ref q), some (.int (nI n)), some (.ref 11), some (.int (nI i)), some (.int (nI j))] [] h Q :=
  B2_12 (fun c1 => B2_59 (k2 c1)) (fun c1 => B2_18 (t3 c1) (e5 c1) (g6 c1) (e8 c1) (g9 c1) (e11 c1) (S.T 11) (k12 c1))
theorem V2r {h : pm_H} {Q : Option Value → pm_H → Prop} {q : Nat} {n : Nat} {i : Nat} {j : Nat} (S : SK h) (g1 : vp_in (((nI i) * (Int32.ofInt 8)) + (nI j)) 64) (k2 : WP 2 12 [some (.ref 17), some (.ref q), some (.int (nI n)), some (.ref 11), some (.int (nI i)), some (.int ((nI j) + (Int32.ofInt 1)))] [] (yI h 18 ((((nI i) * (Int32.ofInt 8)) + (nI j))).toNatClampNeg (((Int32.ofInt 3) * (zI h 11 1)) - (zI h 11 0))) Q) : WP 2 36 [some (.ref 17), some (.ref q), some (.int (nI n)), some (.ref 11), some (.int (nI i)), some (.int (nI j))] [] h Q :=
  B2_36 (S.T 17) (S.R 17 0) (S.T 11) (B52_0 (S.T 11) (B2_52 ⟨(S.T 18), (S.bd 18 g1)⟩ (k2)))
theorem V3 {h : pm_H} {Q : Option Value → pm_H → Prop} {d4 : Option Value} {d5 : Option Value} {d6 : Option Value} {d7 : Option Value} {s : Nat} {l : Nat} {n : Nat} (S : SK h) (k1 : WP 3 9 [some (.ref 17), some (.int (nI s)), some (.int (nI l)), some (.int (nI n)), some (.int (Int32.ofInt (-1))), some (.int (Int32.ofInt 0)), some (.int (Int32.ofInt 0)), d7] [] h Q) : WP 3 0 [some (.ref 17), some (.int (nI s)), some (.int (nI l)), some (.int (nI n)), d4, d5, d6, d7] [] h Q :=
  B3_0 (k1)
theorem V3L {h : pm_H} {Q : Option Value → pm_H → Prop} {be : Int32} {bv : Int32} {d7 : Option Value} {s : Nat} {l : Nat} {n : Nat} {k : Nat} (S : SK h) (k2 : ((nI n) ≤ (nI k)) → Q (some (.int be)) h) (k4 : (¬ (nI n) ≤ (nI k)) → (¬ (((nI s) >>> ((nI k) &&& 31)) &&& (Int32.ofInt 1)) = 0) → WP 3 9 [some (.ref 17), some (.int (nI s)), some (.int (nI l)), some (.int (nI n)), some (.int be), some (.int bv), some (.int ((nI k) + (Int32.ofInt 1))), d7] [] h Q) (g5 : (¬ (nI n) ≤ (nI k)) → ((((nI s) >>> ((nI k) &&& 31)) &&& (Int32.ofInt 1)) = 0) → vp_in (((nI l) * (Int32.ofInt 8)) + (nI k)) 64) (g6 : (¬ (nI n) ≤ (nI k)) → ((((nI s) >>> ((nI k) &&& 31)) &&& (Int32.ofInt 1)) = 0) → vp_in ((((nI s) ||| ((Int32.ofInt 1) <<< ((nI k) &&& 31))) * (Int32.ofInt 8)) + (nI k)) 2048) (k8 : (¬ (nI n) ≤ (nI k)) → ((((nI s) >>> ((nI k) &&& 31)) &&& (Int32.ofInt 1)) = 0) → (be = (Int32.ofInt (-1))) → WP 3 9 [some (.ref 17), some (.int (nI s)), some (.int (nI l)), some (.int (nI n)), some (.int (nI k)), some (.int ((zI h 18 ((((nI l) * (Int32.ofInt 8)) + (nI k))).toNatClampNeg) + (zI h 19 (((((nI s) ||| ((Int32.ofInt 1) <<< ((nI k) &&& 31))) * (Int32.ofInt 8)) + (nI k))).toNatClampNeg))), some (.int ((nI k) + (Int32.ofInt 1))), some (.int ((zI h 18 ((((nI l) * (Int32.ofInt 8)) + (nI k))).toNatClampNeg) + (zI h 19 (((((nI s) ||| ((Int32.ofInt 1) <<< ((nI k) &&& 31))) * (Int32.ofInt 8)) + (nI k))).toNatClampNeg)))] [] h Q) (k10 : (¬ (nI n) ≤ (nI k)) → ((((nI s) >>> ((nI k) &&& 31)) &&& (Int32.ofInt 1)) = 0) → (¬ be = (Int32.ofInt (-1))) → (((zI h 18 ((((nI l) * (Int32.ofInt 8)) + (nI k))).toNatClampNeg) + (zI h 19 (((((nI s) ||| ((Int32.ofInt 1) <<< ((nI k) &&& 31))) * (Int32.ofInt 8)) + (nI k))).toNatClampNeg)) ≤ bv) → WP 3 9 [some (.ref 17), some (.int (nI s)), some (.int (nI l)), some (.int (nI n)), some (.int be), some (.int bv), some (.int ((nI k) + (Int32.ofInt 1))), some (.int ((zI h 18 ((((nI l) * (Int32.ofInt 8)) + (nI k))).toNatClampNeg) + (zI h 19 (((((nI s) ||| ((Int32.ofInt 1) <<< ((nI k) &&& 31))) * (Int32.ofInt 8)) + (nI k))).toNatClampNeg)))] [] h Q) (k11 : (¬ (nI n) ≤ (nI k)) → ((((nI s) >>> ((nI k) &&& 31)) &&& (Int32.ofInt 1)) = 0) → (¬ be = (Int32.ofInt (-1))) → (¬ ((zI h 18 ((((nI l) * (Int32.ofInt 8)) + (nI k))).toNatClampNeg) + (zI h 19 (((((nI s) ||| ((Int32.ofInt 1) <<< ((nI k) &&& 31))) * (Int32.ofInt 8)) + (nI k))).toNatClampNeg)) ≤ bv) → WP 3 9 [some (.ref 17), some (.int (nI s)), some (.int (nI l)), some (.int (nI n)), some (.int (nI k)), some (.int ((zI h 18 ((((nI l) * (Int32.ofInt 8)) + (nI k))).toNatClampNeg) + (zI h 19 (((((nI s) ||| ((Int32.ofInt 1) <<< ((nI k) &&& 31))) * (Int32.ofInt 8)) + (nI k))).toNatClampNeg))), some (.int ((nI k) + (Int32.ofInt 1))), some (.int ((zI h 18 ((((nI l) * (Int32.ofInt 8)) + (nI k))).toNatClampNeg) + (zI h 19 (((((nI s) ||| ((Int32.ofInt 1) <<< ((nI k) &&& 31))) * (Int32.ofInt 8)) + (nI k))).toNatClampNeg)))] [] h Q) : WP 3 9 [some (.ref 17), some (.int (nI s)), some (.int (nI l)), some (.int (nI n)), some (.int be), some (.int bv), some (.int (nI k)), d7] [] h Q :=
  B3_9 (fun c1 => B3_61 (k2 c1)) (fun c1 => B3_15 (fun c3 => B3_55 (k4 c1 c3)) (fun c3 => B3_24 (S.T 17) (B4_0 (S.T 17) (S.R 17 0) ⟨(S.T 18), (S.bd 18 (g5 c1 c3))⟩ (S.R 17 1) ⟨(S.T 19), (S.bd 19 (g6 c1 c3))⟩ (B3_32 (fun c7 => B3_47 (B3_55 (k8 c1 c3 c7))) (fun c7 => B3_40 (fun c9 => B3_55 (k10 c1 c3 c7 c9)) (fun c9 => B3_47 (B3_55 (k11 c1 c3 c7 c9))))))))
theorem V5 {h : pm_H} {Q : Option Value → pm_H → Prop} {i : Nat} (S : SK h) (g1 : vp_in ((((Int32.ofInt 1) <<< ((nI i) &&& 31)) * (Int32.ofInt 8)) + (nI i)) 2048) (k2 : Q (some (.int (zI h 19 (((((Int32.ofInt 1) <<< ((nI i) &&& 31)) * (Int32.ofInt 8)) + (nI i))).toNatClampNeg))) h) : WP 5 0 [some (.ref 17), some (.int (nI i))] [] h Q :=
  B5_0 (S.T 17) (S.R 17 1) ⟨(S.T 19), (S.bd 19 g1)⟩ k2
theorem V4 {h : pm_H} {Q : Option Value → pm_H → Prop} {d4 : Option Value} {s : Nat} {l : Nat} {j : Nat} (S : SK h) (g1 : vp_in (((nI l) * (Int32.ofInt 8)) + (nI j)) 64) (g2 : vp_in ((((nI s) ||| ((Int32.ofInt 1) <<< ((nI j) &&& 31))) * (Int32.ofInt 8)) + (nI j)) 2048) (k3 : Q (some (.int ((zI h 18 ((((nI l) * (Int32.ofInt 8)) + (nI j))).toNatClampNeg) + (zI h 19 (((((nI s) ||| ((Int32.ofInt 1) <<< ((nI j) &&& 31))) * (Int32.ofInt 8)) + (nI j))).toNatClampNeg)))) h) : WP 4 0 [some (.ref 17), some (.int (nI s)), some (.int (nI l)), some (.int (nI j)), d4] [] h Q :=
  B4_0 (S.T 17) (S.R 17 0) ⟨(S.T 18), (S.bd 18 g1)⟩ (S.R 17 1) ⟨(S.T 19), (S.bd 19 g2)⟩ k3
theorem V6 {h : pm_H} {Q : Option Value → pm_H → Prop} {d4 : Option Value} {d5 : Option Value} {d6 : Option Value} {n : Nat} {f : Nat} (S : SK h) (k1 : WP 6 9 [some (.ref 17), some (.int (nI n)), some (.int (nI f)), some (.ref 34), some (.int (Int32.ofInt 0)), some (.int (nI f)), some (.int (Int32.ofInt 0))] [] h Q) : WP 6 0 [some (.ref 17), some (.int (nI n)), some (.int (nI f)), some (.ref 34), d4, d5, d6] [] h Q :=
  B6_0 (k1)
theorem V6L {h : pm_H} {Q : Option Value → pm_H → Prop} {pt : Int32} {n : Nat} {f : Nat} {s : Nat} {k : Nat} (S : SK h) (k2 : ((nI n) ≤ (nI k)) → Q none h) (k4 : (¬ (nI n) ≤ (nI k)) → ((Int32.ofInt (zN h 34)) ≤ (nI k)) → Q none h) (k6 : (¬ (nI n) ≤ (nI k)) → (¬ (Int32.ofInt (zN h 34)) ≤ (nI k)) → (pt = (Int32.ofInt (-1))) → Q none h) (g7 : (¬ (nI n) ≤ (nI k)) → (¬ (Int32.ofInt (zN h 34)) ≤ (nI k)) → (¬ pt = (Int32.ofInt (-1))) → vp_in (nI k) 12) (k8 : (¬ (nI n) ≤ (nI k)) → (¬ (Int32.ofInt (zN h 34)) ≤ (nI k)) → (¬ pt = (Int32.ofInt (-1))) → WP 3 0 [some (.ref 17), some (.int ((nI s) ||| ((Int32.ofInt 1) <<< (pt &&& 31)))), some (.int pt), some (.int (nI n)), none, none, none, none] [] (yI h 34 ((nI k)).toNatClampNeg pt) (fun v1 h1 => WP 6 52 [some (.ref 17), some (.int (nI n)), some (.int (nI f)), some (.ref 34), some (.int ((nI s) ||| ((Int32.ofInt 1) <<< (pt &&& 31)))), some (.int pt), some (.int (nI k))] (v1.toList ++ []) h1 Q)) : WP 6 9 [some (.ref 17), some (.int (nI n)), some (.int (nI f)), some (.ref 34), some (.int (nI s)), some (.int pt), some (.int (nI k))] [] h Q :=
  B6_9 (fun c1 => B6_60 (k2 c1)) (fun c1 => B6_15 (S.al 34) (fun c3 => B6_60 (k4 c1 c3)) (fun c3 => B6_22 (fun c5 => B6_60 (k6 c1 c3 c5)) (fun c5 => B6_28 ⟨(S.T 34), (S.bd 34 (g7 c1 c3 c5))⟩ (S.T 17) (k8 c1 c3 c5))))
theorem V6r {h : pm_H} {Q : Option Value → pm_H → Prop} {pt : Int32} {nx : Int32} {n : Nat} {f : Nat} {s : Nat} {k : Nat} (S : SK h) (k1 : WP 6 9 [some (.ref 17), some (.int (nI n)), some (.int (nI f)), some (.ref 34), some (.int (nI s)), some (.int nx), some (.int ((nI k) + (Int32.ofInt 1)))] [] h Q) : WP 6 52 [some (.ref 17), some (.int (nI n)), some (.int (nI f)), some (.ref 34), some (.int (nI s)), some (.int pt), some (.int (nI k))] [.int nx] h Q :=
  B6_52 (k1)
theorem V1 {h : pm_H} {Q : Option Value → pm_H → Prop} {q : Nat} {d4 : Option Value} {d5 : Option Value} {d6 : Option Value} {d7 : Option Value} {d8 : Option Value} (S : SK h) (t1 : zT h q = 3) (k2 : WP 2 0 [some (.ref 17), some (.ref q), some (.int (mnI (zI h q 2) (Int32.ofInt 8))), some (.ref 11), none, none] [] h (fun v1 h1 => WP 1 19 [some (.ref 17), some (.ref q), some (.ref 11), some (.ref 34), some (.int (mnI (zI h q 2) (Int32.ofInt 8))), d5, d6, d7, d8] (v1.toList ++ []) h1 Q)) : WP 1 0 [some (.ref 17), some (.ref q), some (.ref 11), some (.ref 34), d4, d5, d6, d7, d8] [] h Q :=
  B1_0 t1 (S.T 17) k2
theorem V1a {h : pm_H} {Q : Option Value → pm_H → Prop} {q : Nat} {d5 : Option Value} {d6 : Option Value} {d7 : Option Value} {d8 : Option Value} {n : Nat} (S : SK h) (k1 : WP 1 31 [some (.ref 17), some (.ref q), some (.ref 11), some (.ref 34), some (.int (nI n)), some (.int (((Int32.ofInt 1) <<< ((nI n) &&& 31)) - (Int32.ofInt 1))), some (.int (((Int32.ofInt 1) <<< ((nI n) &&& 31)) - (Int32.ofInt 1))), d7, d8] [] h Q) : WP 1 19 [some (.ref 17), some (.ref q), some (.ref 11), some (.ref 34), some (.int (nI n)), d5, d6, d7, d8] [] h Q :=
  B1_19 (k1)
theorem V1L {h : pm_H} {Q : Option Value → pm_H → Prop} {q : Nat} {fu : Int32} {d7 : Option Value} {d8 : Option Value} {n : Nat} {s : Nat} (S : SK h) (k2 : ((nI s) ≤ 0) → WP 1 120 [some (.ref 17), some (.ref q), some (.ref 11), some (.ref 34), some (.int (nI n)), some (.int fu), some (.int (Int32.ofInt 0)), some (.int (Int32.ofInt 1)), d8] [] h Q) (k3 : (¬ (nI s) ≤ 0) → WP 1 39 [some (.ref 17), some (.ref q), some (.ref 11), some (.ref 34), some (.int (nI n)), some (.int fu), some (.int (nI s)), some (.int (Int32.ofInt 0)), d8] [] h Q) : WP 1 31 [some (.ref 17), some (.ref q), some (.ref 11), some (.ref 34), some (.int (nI n)), some (.int fu), some (.int (nI s)), d7, d8] [] h Q :=
  B1_31 (fun c1 => B1_114 (k2 c1)) (fun c1 => B1_36 (k3 c1))
theorem V1M {h : pm_H} {Q : Option Value → pm_H → Prop} {q : Nat} {fu : Int32} {d8 : Option Value} {n : Nat} {s : Nat} {l : Nat} (S : SK h) (k2 : ((nI n) ≤ (nI l)) → WP 1 31 [some (.ref 17), some (.ref q), some (.ref 11), some (.ref 34), some (.int (nI n)), some (.int fu), some (.int ((nI s) + (Int32.ofInt (-1)))), some (.int (nI l)), d8] [] h Q) (k4 : (¬ (nI n) ≤ (nI l)) → (¬ (((nI s) >>> ((nI l) &&& 31)) &&& (Int32.ofInt 1)) = (Int32.ofInt 1)) → WP 1 39 [some (.ref 17), some (.ref q), some (.ref 11), some (.ref 34), some (.int (nI n)), some (.int fu), some (.int (nI s)), some (.int ((nI l) + (Int32.ofInt 1))), d8] [] h Q) (k5 : (¬ (nI n) ≤ (nI l)) → ((((nI s) >>> ((nI l) &&& 31)) &&& (Int32.ofInt 1)) = (Int32.ofInt 1)) → WP 3 0 [some (.ref 17), some (.int (nI s)), some (.int (nI l)), some (.int (nI n)), none, none, none, none] [] h (fun v1 h1 => WP 1 67 [some (.ref 17), some (.ref q), some (.ref 11), some (.ref 34), some (.int (nI n)), some (.int fu), some (.int (nI s)), some (.int (nI l)), d8] (v1.toList ++ []) h1 Q)) : WP 1 39 [some (.ref 17), some (.ref q), some (.ref 11), some (.ref 34), some (.int (nI n)), some (.int fu), some (.int (nI s)), some (.int (nI l)), d8] [] h Q :=
  B1_39 (fun c1 => B1_108 (k2 c1)) (fun c1 => B1_46 (fun c3 => B1_102 (k4 c1 c3)) (fun c3 => B1_57 (S.T 17) (k5 c1 c3)))
theorem V1b {h : pm_H} {Q : Option Value → pm_H → Prop} {q : Nat} {fu : Int32} {nx : Int32} {d8 : Option Value} {n : Nat} {s : Nat} {l : Nat} (S : SK h) (k2 : (¬ nx = (Int32.ofInt (-1))) → WP 4 0 [some (.ref 17), some (.int (nI s)), some (.int (nI l)), some (.int nx), none] [] h (fun v1 h1 => WP 1 101 [some (.ref 17), some (.ref q), some (.ref 11), some (.ref 34), some (.int (nI n)), some (.int fu), some (.int (nI s)), some (.int (nI l)), some (.int nx)] (v1.toList ++ [.int (((nI s) * (Int32.ofInt 8)) + (nI l)), .ref 19]) h1 Q)) (k3 : (nx = (Int32.ofInt (-1))) → WP 1 101 [some (.ref 17), some (.ref q), some (.ref 11), some (.ref 34), some (.int (nI n)), some (.int fu), some (.int (nI s)), some (.int (nI l)), some (.int nx)] [.int (Int32.ofInt 0), .int (((nI s) * (Int32.ofInt 8)) + (nI l)), .ref 19] h Q) : WP 1 67 [some (.ref 17), some (.ref q), some (.ref 11), some (.ref 34), some (.int (nI n)), some (.int fu), some (.int (nI s)), some (.int (nI l)), d8] [.int nx] h Q :=
  B1_67 (S.T 17) (S.R 17 1) (fun c1 => B1_91 (S.T 17) (k2 c1)) (fun c1 => B1_87 (k3 c1))
theorem V1c {h : pm_H} {Q : Option Value → pm_H → Prop} {q : Nat} {fu : Int32} {nx : Int32} {ix : Int32} {va : Int32} {n : Nat} {s : Nat} {l : Nat} (S : SK h) (g1 : vp_in ix 2048) (k2 : WP 1 39 [some (.ref 17), some (.ref q), some (.ref 11), some (.ref 34), some (.int (nI n)), some (.int fu), some (.int (nI s)), some (.int ((nI l) + (Int32.ofInt 1))), some (.int nx)] [] (yI h 19 (ix).toNatClampNeg va) Q) : WP 1 101 [some (.ref 17), some (.ref q), some (.ref 11), some (.ref 34), some (.int (nI n)), some (.int fu), some (.int (nI s)), some (.int (nI l)), some (.int nx)] [.int va, .int ix, .ref 19] h Q :=
  B1_101 ⟨(S.T 19), (S.bd 19 g1)⟩ (B1_102 (k2))
theorem V1N {h : pm_H} {Q : Option Value → pm_H → Prop} {q : Nat} {fu : Int32} {d8 : Option Value} {n : Nat} {f : Nat} {k : Nat} (S : SK h) (k2 : ((nI n) ≤ (nI k)) → WP 6 0 [some (.ref 17), some (.int (nI n)), some (.int (nI f)), some (.ref 34), none, none, none] [] h (fun v1 h1 => WP 1 161 [some (.ref 17), some (.ref q), some (.ref 11), some (.ref 34), some (.int (nI n)), some (.int fu), some (.int (nI f)), some (.int (nI k)), d8] (v1.toList ++ []) h1 Q)) (g3 : (¬ (nI n) ≤ (nI k)) → vp_in ((((Int32.ofInt 1) <<< ((nI k) &&& 31)) * (Int32.ofInt 8)) + (nI k)) 2048) (g4 : (¬ (nI n) ≤ (nI k)) → vp_in ((((Int32.ofInt 1) <<< ((nI f) &&& 31)) * (Int32.ofInt 8)) + (nI f)) 2048) (k6 : (¬ (nI n) ≤ (nI k)) → ((zI h 19 (((((Int32.ofInt 1) <<< ((nI k) &&& 31)) * (Int32.ofInt 8)) + (nI k))).toNatClampNeg) ≤ (zI h 19 (((((Int32.ofInt 1) <<< ((nI f) &&& 31)) * (Int32.ofInt 8)) + (nI f))).toNatClampNeg)) → WP 1 120 [some (.ref 17), some (.ref q), some (.ref 11), some (.ref 34), some (.int (nI n)), some (.int fu), some (.int (nI f)), some (.int ((nI k) + (Int32.ofInt 1))), d8] [] h Q) (k7 : (¬ (nI n) ≤ (nI k)) → (¬ (zI h 19 (((((Int32.ofInt 1) <<< ((nI k) &&& 31)) * (Int32.ofInt 8)) + (nI k))).toNatClampNeg) ≤ (zI h 19 (((((Int32.ofInt 1) <<< ((nI f) &&& 31)) * (Int32.ofInt 8)) + (nI f))).toNatClampNeg)) → WP 1 120 [some (.ref 17), some (.ref q), some (.ref 11), some (.ref 34), some (.int (nI n)), some (.int fu), some (.int (nI k)), some (.int ((nI k) + (Int32.ofInt 1))), d8] [] h Q) : WP 1 120 [some (.ref 17), some (.ref q), some (.ref 11), some (.ref 34), some (.int (nI n)), some (.int fu), some (.int (nI f)), some (.int (nI k)), d8] [] h Q :=
  B1_120 (fun c1 => B1_152 (S.T 17) (k2 c1)) (fun c1 => B1_127 (S.T 17) (B5_0 (S.T 17) (S.R 17 1) ⟨(S.T 19), (S.bd 19 (g3 c1))⟩ (B1_133 (S.T 17) (B5_0 (S.T 17) (S.R 17 1) ⟨(S.T 19), (S.bd 19 (g4 c1))⟩ (B1_139 (fun c5 => B1_146 (k6 c1 c5)) (fun c5 => B1_142 (B1_146 (k7 c1 c5))))))))
theorem V1r {h : pm_H} {Q : Option Value → pm_H → Prop} {q : Nat} {fu : Int32} {d7 : Option Value} {d8 : Option Value} {n : Nat} {f : Nat} (S : SK h) (g1 : vp_in ((((Int32.ofInt 1) <<< ((nI f) &&& 31)) * (Int32.ofInt 8)) + (nI f)) 2048) (k2 : Q (some (.int (zI h 19 (((((Int32.ofInt 1) <<< ((nI f) &&& 31)) * (Int32.ofInt 8)) + (nI f))).toNatClampNeg))) h) : WP 1 161 [some (.ref 17), some (.ref q), some (.ref 11), some (.ref 34), some (.int (nI n)), some (.int fu), some (.int (nI f)), d7, d8] [] h Q :=
  B1_161 (S.T 17) (B5_0 (S.T 17) (S.R 17 1) ⟨(S.T 19), (S.bd 19 g1)⟩ (B1_167 k2))
def enO : Option Nat → Int32
  | none => Int32.ofInt (-1)
  | some b => nI b
section ORC
variable {h : pm_H} {Q : Option Value → pm_H → Prop} {B : Bk}
def prB (B : Bk) (c i j : Nat) : Int := pV B (ptL B c i) (ptL B c j)
/-- measurePairs -/
theorem c2 {q c n : Nat} (S : SK h) (bo : bk_ok B) (hc : c < B.2.length) (hq : atQ h q B c) (hn : n = (clL B c).2.length) (hn8 : n ≤ 8) (k0 : ∀ g, Same [11, 18] h g → (∀ i j, i < n → j < n → zI g 18 (i * 8 + j) = Int32.ofInt (prB B c i j)) → Q none g) : WP 2 0 [some (.ref 17), some (.ref q), some (.int (nI n)), some (.ref 11), none, none] [] h Q := by
  obtain ⟨u1, u2, u3, u4⟩ := bk_cl bo hc
  rw [← hn] at u2 u3 u4
  have L : ∀ m i (g : pm_H) d5, i + m = n → Same [11, 18] h g → (∀ i' j, i' < i → j < n → zI g 18 (i' * 8 + j) = Int32.ofInt (prB B c i' j)) → WP 2 3 [some (.ref 17), some (.ref q), some (.int (nI n)), some (.ref 11), some (.int (nI i)), d5] [] g Q := by
    intro m
    induction m with
    | zero =>
      intro i g d5 hi sg f
      obtain rfl : i = n := by omega
      have k0' := k0 g sg f
      refine V2L  (sg.SK S) ?_ ?_ <;> simp (disch := omega) only [oi_l, oi_n, z_nI, nIA, nIM, nIS, nIlt, nIle, nIeq, nIC, vpI, Nat.add_sub_cancel, Nat.not_le, Nat.not_lt, Nat.not_lt_zero, Nat.le_refl, not_true_eq_false, not_false_eq_true, false_imp_iff, true_imp_iff, forall_const, implies_true, Nat.reduceEqDiff, Nat.reduceLeDiff, Nat.reduceLT] <;> first | omega | exact k0'
    | succ m ih =>
      intro i g d5 hi sg f
      have M : ∀ m' j (g : pm_H), j + m' = n → Same [11, 18] h g → (∀ i' j, i' < i → j < n → zI g 18 (i' * 8 + j) = Int32.ofInt (prB B c i' j)) → (∀ j', j' < j → zI g 18 (i * 8 + j') = Int32.ofInt (prB B c i j')) → WP 2 12 [some (.ref 17), some (.ref q), some (.int (nI n)), some (.ref 11), some (.int (nI i)), some (.int (nI j))] [] g Q := by
        intro m'
        induction m' with
        | zero =>
          intro j g hj sg f1 f2
          obtain rfl : j = n := by omega
          have I' := ih (i + 1) g (some (.int (nI j))) (by omega) sg (fun i' j' h1 h2 => by
            by_cases e : i' = i
            · rw [e]; exact f2 j' h2
            · exact f1 i' j' (by omega) h2)
          refine V2M (b4 := 0) (b7 := 0) (b10 := 0) (sg.SK S) ?_ ?_ ?_ ?_ ?_ ?_ ?_ ?_ <;> simp (disch := omega) only [oi_l, oi_n, z_nI, nIA, nIM, nIS, nIlt, nIle, nIeq, nIC, vpI, Nat.add_sub_cancel, Nat.not_le, Nat.not_lt, Nat.not_lt_zero, Nat.le_refl, not_true_eq_false, not_false_eq_true, false_imp_iff, true_imp_iff, forall_const, implies_true, Nat.reduceEqDiff, Nat.reduceLeDiff, Nat.reduceLT] <;> first | omega | exact I'
        | succ m' ih' =>
          intro j g hj sg f1 f2
          obtain ⟨q1, q2, q3, q4, pa, q5, q6, q7, q8, q9⟩ := hq.keep (sg.D (by decide))
          obtain ⟨w, w1, w2⟩ := q9 i (by omega)
          obtain ⟨w', w1', w2'⟩ := q9 j (by omega)
          refine V2M (b4 := pa) (b7 := w) (b10 := w') (sg.SK S) ?_ ?_ ?_ ?_ ?_ ?_ ?_ ?_ <;> simp (disch := omega) only [oi_l, oi_n, z_nI, nIA, nIM, nIS, nIlt, nIle, nIeq, nIC, vpI, Nat.add_sub_cancel, Nat.not_le, Nat.not_lt, Nat.not_lt_zero, Nat.le_refl, not_true_eq_false, not_false_eq_true, false_imp_iff, true_imp_iff, forall_const, implies_true, Nat.reduceEqDiff, Nat.reduceLeDiff, Nat.reduceLT, q2, q5, q7, q8, w1, w1', show ¬ n ≤ j by omega, true_or, or_true, true_and] <;> (try omega)
          refine c51 (sg.SK S) bo w2 w2' (u4 i (by omega)) (u4 j (by omega)) (fun g2 s2 e0 e1 => ?_)
          have s3 : Same [11, 18] h g2 := (sg.tr s2).sub (by decide)
          refine V2r  (s3.SK S) ?_ ?_ <;> (try simp only [e0, e1, sV_n]) <;> simp (disch := omega) only [oi_l, oi_n, z_nI, nIA, nIM, nIS, nIlt, nIle, nIeq, nIC, vpI, Nat.add_sub_cancel, Nat.not_le, Nat.not_lt, Nat.not_lt_zero, Nat.le_refl, not_true_eq_false, not_false_eq_true, false_imp_iff, true_imp_iff, forall_const, implies_true, Nat.reduceEqDiff, Nat.reduceLeDiff, Nat.reduceLT] <;> (try omega)
          refine ih' (j + 1) _ (by omega) (s3.I 18 _ _ (by decide)) (fun i' j' h1 h2 => ?_) (fun j' h1 => ?_)
          · simp only [zI_yI, va_upA, if_true]
            rw [if_neg (by omega), s2.1 18 (by decide)]; exact f1 i' j' h1 h2
          · simp only [zI_yI, va_upA, if_true]
            by_cases e : j' = j
            · rw [e, if_pos rfl]; rfl
            · rw [if_neg (by omega), s2.1 18 (by decide)]; exact f2 j' (by omega)
      have M' := M n 0 g (by omega) sg f (fun j' h1 => absurd h1 (Nat.not_lt_zero _))
      refine V2L  (sg.SK S) ?_ ?_ <;> simp (disch := omega) only [oi_l, oi_n, z_nI, nIA, nIM, nIS, nIlt, nIle, nIeq, nIC, vpI, Nat.add_sub_cancel, Nat.not_le, Nat.not_lt, Nat.not_lt_zero, Nat.le_refl, not_true_eq_false, not_false_eq_true, false_imp_iff, true_imp_iff, forall_const, implies_true, Nat.reduceEqDiff, Nat.reduceLeDiff, Nat.reduceLT, show ¬ n ≤ i by omega] <;> first | omega | exact M'
  exact V2 S (L n 0 h none (by omega) Same.rf (fun i' j h1 => absurd h1 (Nat.not_lt_zero _)))
theorem or8 {s j n : Nat} (hn : n ≤ 8) (hs : s < 2 ^ n) (hj : j < n) : s ||| 2 ^ j < 256 := Nat.lt_of_lt_of_le (or_lt hs hj) (p8 hn)
/-- bestNext -/
theorem c3 {pr : Nat → Nat → Int} {n s l : Nat} (S : SK h) (hn : n ≤ 8) (hp : ∀ i j, i < n → j < n → -400 ≤ pr i j ∧ pr i j ≤ 1200) (hs : s < 2 ^ n) (hl : l < n) (e18 : ∀ i j, i < n → j < n → zI h 18 (i * 8 + j) = Int32.ofInt (pr i j)) (e19 : ∀ j, j < n → s.testBit j = false → zI h 19 ((s ||| 2 ^ j) * 8 + j) = Int32.ofInt (oV pr n (s ||| 2 ^ j) j)) (k0 : Q (some (.int (enO (oN pr n s l)))) h) : WP 3 0 [some (.ref 17), some (.int (nI s)), some (.int (nI l)), some (.int (nI n)), none, none, none, none] [] h Q := by
  have s8 : s < 256 := Nat.lt_of_lt_of_le hs (p8 hn)
  have L : ∀ m k be bv d7, k + m = n → be = enO (am2 (fun j => !s.testBit j) (oF pr n s l) k) → (∀ b, am2 (fun j => !s.testBit j) (oF pr n s l) k = some b → bv = Int32.ofInt (oF pr n s l b)) → WP 3 9 [some (.ref 17), some (.int (nI s)), some (.int (nI l)), some (.int (nI n)), some (.int be), some (.int bv), some (.int (nI k)), d7] [] h Q := by
    intro m
    induction m with
    | zero =>
      intro k be bv d7 hk e1 e2
      obtain rfl : k = n := by omega
      have k0' : Q (some (.int be)) h := by rw [e1]; exact k0
      refine V3L  S ?_ ?_ ?_ ?_ ?_ ?_ ?_ <;> simp (disch := omega) only [oi_l, oi_n, z_nI, nIA, nIM, nIS, nIlt, nIle, nIeq, nIC, vpI, Nat.add_sub_cancel, Nat.not_le, Nat.not_lt, Nat.not_lt_zero, Nat.le_refl, not_true_eq_false, not_false_eq_true, false_imp_iff, true_imp_iff, forall_const, implies_true, Nat.reduceEqDiff, Nat.reduceLeDiff, Nat.reduceLT] <;> first | omega | exact k0'
    | succ m ih =>
      intro k be bv d7 hk e1 e2
      have hmk : ¬ n ≤ k := by omega
      cases hb : s.testBit k with
      | true =>
        have I' := fun d7 => ih (k + 1) be bv d7 (by omega) (by rw [am2, if_neg (by rw [hb]; decide)]; exact e1) (by rw [am2, if_neg (by rw [hb]; decide)]; exact e2)
        refine V3L  S ?_ ?_ ?_ ?_ ?_ ?_ ?_ <;> simp (disch := omega) only [oi_l, oi_n, z_nI, nIA, nIM, nIS, nIlt, nIle, nIeq, nIC, vpI, Nat.add_sub_cancel, Nat.not_le, Nat.not_lt, Nat.not_lt_zero, Nat.le_refl, not_true_eq_false, not_false_eq_true, false_imp_iff, true_imp_iff, forall_const, implies_true, Nat.reduceEqDiff, Nat.reduceLeDiff, Nat.reduceLT, nShr, hb, hmk, ↓reduceIte] <;> first | omega | exact I' _
      | false =>
        have y1 := e18 l k hl (by omega)
        have y2 := e19 k (by omega) hb
        have o8 := or8 hn hs (show k < n by omega)
        have ef : pr l k + oV pr n (s ||| 2 ^ k) k = oF pr n s l k := rfl
        have b1 := oF_b hn hp hs hl (show k < n by omega)
        have pk : (!s.testBit k) = true := by rw [hb]; rfl
        cases ha : am2 (fun j => !s.testBit j) (oF pr n s l) k with
        | none =>
          rw [ha] at e1
          have I' := fun d7 => ih (k + 1) (nI k) (Int32.ofInt (oF pr n s l k)) d7 (by omega) (by rw [am2, if_pos pk, ha]; rfl) (fun b hb' => by rw [am2, if_pos pk, ha] at hb'; cases hb'; rfl)
          subst e1
          refine V3L  S ?_ ?_ ?_ ?_ ?_ ?_ ?_ <;> simp (disch := omega) only [oi_l, oi_n, z_nI, nIA, nIM, nIS, nIlt, nIle, nIeq, nIC, vpI, Nat.add_sub_cancel, Nat.not_le, Nat.not_lt, Nat.not_lt_zero, Nat.le_refl, not_true_eq_false, not_false_eq_true, false_imp_iff, true_imp_iff, forall_const, implies_true, Nat.reduceEqDiff, Nat.reduceLeDiff, Nat.reduceLT, nShr, nShl, nOr, hb, hmk, y1, y2, zADD, ef, enO, ↓reduceIte, Bool.false_eq_true] <;> first | omega | exact I' _
        | some b =>
          rw [ha] at e1
          have e2' := e2 b ha
          subst e1 e2'
          obtain ⟨b3, b4⟩ := am2_p ha
          have n1 := nI_ne1 (q := b) (by omega)
          have b2 := oF_b hn hp hs hl (show b < n by omega)
          by_cases cc : oF pr n s l b < oF pr n s l k
          · have I' := fun d7 => ih (k + 1) (nI k) (Int32.ofInt (oF pr n s l k)) d7 (by omega) (by rw [am2, if_pos pk, ha]; simp only [if_pos cc]; rfl) (fun b' hb' => by rw [am2, if_pos pk, ha] at hb'; simp only [if_pos cc] at hb'; cases hb'; rfl)
            have c' : ¬ oF pr n s l k ≤ oF pr n s l b := by omega
            refine V3L  S ?_ ?_ ?_ ?_ ?_ ?_ ?_ <;> simp (disch := omega) only [oi_l, oi_n, z_nI, nIA, nIM, nIS, nIlt, nIle, nIeq, nIC, vpI, Nat.add_sub_cancel, Nat.not_le, Nat.not_lt, Nat.not_lt_zero, Nat.le_refl, not_true_eq_false, not_false_eq_true, false_imp_iff, true_imp_iff, forall_const, implies_true, Nat.reduceEqDiff, Nat.reduceLeDiff, Nat.reduceLT, nShr, nShl, nOr, hb, hmk, y1, y2, zADD, ef, enO, n1, zLE, c', Int.not_le, Int.not_lt, eq_true cc, ↓reduceIte, Bool.false_eq_true] <;> first | omega | exact I' _
          · have I' := fun d7 => ih (k + 1) (nI b) (Int32.ofInt (oF pr n s l b)) d7 (by omega) (by rw [am2, if_pos pk, ha]; simp only [if_neg cc]; rfl) (fun b' hb' => by rw [am2, if_pos pk, ha] at hb'; simp only [if_neg cc] at hb'; cases hb'; rfl)
            have c' : oF pr n s l k ≤ oF pr n s l b := by omega
            refine V3L  S ?_ ?_ ?_ ?_ ?_ ?_ ?_ <;> simp (disch := omega) only [oi_l, oi_n, z_nI, nIA, nIM, nIS, nIlt, nIle, nIeq, nIC, vpI, Nat.add_sub_cancel, Nat.not_le, Nat.not_lt, Nat.not_lt_zero, Nat.le_refl, not_true_eq_false, not_false_eq_true, false_imp_iff, true_imp_iff, forall_const, implies_true, Nat.reduceEqDiff, Nat.reduceLeDiff, Nat.reduceLT, nShr, nShl, nOr, hb, hmk, y1, y2, zADD, ef, enO, n1, zLE, eq_true c', Int.not_le, Int.not_lt, cc, ↓reduceIte, Bool.false_eq_true] <;> first | omega | exact I' _
  exact V3 S (L n 0 _ _ none (by omega) rfl (fun b hb => by cases hb))
/-- tellOrder -/
theorem c6 {pr : Nat → Nat → Int} {n : Nat} (S : SK h) (hn0 : 0 < n) (hn : n ≤ 8) (hp : ∀ i j, i < n → j < n → -400 ≤ pr i j ∧ pr i j ≤ 1200) (e18 : ∀ i j, i < n → j < n → zI h 18 (i * 8 + j) = Int32.ofInt (pr i j)) (e19 : ∀ s i, 0 < s → s < 2 ^ n → i < n → s.testBit i = true → zI h 19 (s * 8 + i) = Int32.ofInt (oV pr n s i)) (k0 : ∀ g, Same [34] h g → (∀ k, k < n → zI g 34 k = nI (oSt pr n k).2) → Q none g) : WP 6 0 [some (.ref 17), some (.int (nI n)), some (.int (nI (oFst pr n))), some (.ref 34), none, none, none] [] h Q := by
  have L : ∀ m k s pt (g : pm_H), k + m = n → (k < n → s < 256 ∧ s ||| 2 ^ (oSt pr n k).2 = (oSt pr n k).1 ∧ pt = nI (oSt pr n k).2) → Same [34] h g → (∀ t, t < k → zI g 34 t = nI (oSt pr n t).2) → WP 6 9 [some (.ref 17), some (.int (nI n)), some (.int (nI (oFst pr n))), some (.ref 34), some (.int (nI s)), some (.int pt), some (.int (nI k))] [] g Q := by
    intro m
    induction m with
    | zero =>
      intro k s pt g hk hs sg f
      obtain rfl : k = n := by omega
      have k0' := k0 g sg f
      refine V6L  (sg.SK S) ?_ ?_ ?_ ?_ ?_ <;> simp (disch := omega) only [oi_l, oi_n, z_nI, nIA, nIM, nIS, nIlt, nIle, nIeq, nIC, vpI, Nat.add_sub_cancel, Nat.not_le, Nat.not_lt, Nat.not_lt_zero, Nat.le_refl, not_true_eq_false, not_false_eq_true, false_imp_iff, true_imp_iff, forall_const, implies_true, Nat.reduceEqDiff, Nat.reduceLeDiff, Nat.reduceLT] <;> first | omega | exact k0'
    | succ m ih =>
      intro k s pt g hk hs sg f
      obtain ⟨s8, es, rfl⟩ := hs (by omega)
      obtain ⟨i1, i2, i3, i4, i5, i6⟩ := oSt_ok (pr := pr) hn0 k (by omega)
      have N34 : zN g 34 = 12 := by rw [sg.2.2.1]; exact S.N 34
      have n1 := nI_ne1 (q := (oSt pr n k).2) (by omega)
      refine V6L  (sg.SK S) ?_ ?_ ?_ ?_ ?_ <;> simp (disch := omega) only [oi_l, oi_n, z_nI, nIA, nIM, nIS, nIlt, nIle, nIeq, nIC, vpI, Nat.add_sub_cancel, Nat.not_le, Nat.not_lt, Nat.not_lt_zero, Nat.le_refl, not_true_eq_false, not_false_eq_true, false_imp_iff, true_imp_iff, forall_const, implies_true, Nat.reduceEqDiff, Nat.reduceLeDiff, Nat.reduceLT, N34, n1, nShl, nOr, es, show ¬ n ≤ k by omega, show ¬ 12 ≤ k by omega] <;> (try omega)
      have s2 : Same [34] h (yI g 34 k (nI (oSt pr n k).2)) := sg.I 34 _ _ (by decide)
      refine c3 (s2.SK S) hn hp i1 i3 (by rw [s2.1 18 (by decide)]; exact e18) (fun j hj hb => ?_) ?_
      · rw [s2.1 19 (by decide)]
        exact e19 _ j (by have := or_gt hb; omega) (or_lt i1 hj) hj (by rw [Nat.testBit_or, Nat.testBit_two_pow_self, Bool.or_true])
      · refine V6r (s2.SK S) ?_
        simp (disch := omega) only [oi_l, oi_n, z_nI, nIA, nIM, nIS, nIlt, nIle, nIeq, nIC, vpI, Nat.add_sub_cancel, Nat.not_le, Nat.not_lt, Nat.not_lt_zero, Nat.le_refl, not_true_eq_false, not_false_eq_true, false_imp_iff, true_imp_iff, forall_const, implies_true, Nat.reduceEqDiff, Nat.reduceLeDiff, Nat.reduceLT]
        refine ih (k + 1) _ _ _ (by omega) (fun hk1 => ?_) s2 (fun t ht => ?_)
        · obtain ⟨b, hb, b1, b2⟩ := i6 hk1
          have e1 : (oSt pr n (k + 1)).1 = (oSt pr n k).1 ||| 2 ^ b := by rw [oSt, hb]; rfl
          have e2 : (oSt pr n (k + 1)).2 = b := by rw [oSt, hb]; rfl
          exact ⟨Nat.lt_of_lt_of_le i1 (p8 hn), by rw [e1, e2], by rw [hb, e2]; rfl⟩
        · simp only [zI_yI, va_upA, if_true]
          by_cases e : t = k
          · rw [if_pos e, e]
          · rw [if_neg e]; exact f t (by omega)
  exact V6 S (L n 0 0 _ h (by omega) (fun _ => ⟨by decide, Nat.zero_or _, rfl⟩) Same.rf (fun t ht => absurd ht (Nat.not_lt_zero _)))
/-- BestOrder.search -/
theorem c1 {q c n : Nat} (S : SK h) (bo : bk_ok B) (hc : c < B.2.length) (hq : atQ h q B c) (hn : n = (clL B c).2.length) (hn8 : n ≤ 8) (k0 : ∀ g, Same [11, 18, 19, 34] h g → (∀ k, k < n → zI g 34 k = nI (oSt (prB B c) n k).2) → Q (some (.int (Int32.ofInt (oV (prB B c) n (2 ^ oFst (prB B c) n) (oFst (prB B c) n))))) g) : WP 1 0 [some (.ref 17), some (.ref q), some (.ref 11), some (.ref 34), none, none, none, none, none] [] h Q := by
  obtain ⟨u1, u2, u3, u4⟩ := bk_cl bo hc
  rw [← hn] at u2 u3 u4
  obtain ⟨pr, epr⟩ : ∃ pr, pr = prB B c := ⟨_, rfl⟩
  rw [← epr] at k0
  have hp : ∀ i j, i < n → j < n → -400 ≤ pr i j ∧ pr i j ≤ 1200 := fun i j hi hj => by rw [epr]; exact sV_b (bk_st bo (u4 i hi).1).1 _ _ _ _
  have P8 := p8 hn8
  obtain ⟨q1, q2, q3, q4, -⟩ := id hq
  rw [← hn] at q4
  have em : mnI (nI n) (Int32.ofInt 8) = nI n := by
    unfold mnI
    rw [if_neg (show ¬ Int32.ofInt 8 < nI n by show ¬ nI 8 < nI n; rw [nIlt (by omega) (by omega)]; omega)]
  have N : ∀ m k (g : pm_H) fu d8, k + m = n → 1 ≤ k → Same [11, 18, 19, 34] h g → (∀ i j, i < n → j < n → zI g 18 (i * 8 + j) = Int32.ofInt (pr i j)) → (∀ s i, 0 < s → s < 2 ^ n → i < n → s.testBit i = true → zI g 19 (s * 8 + i) = Int32.ofInt (oV pr n s i)) → WP 1 120 [some (.ref 17), some (.ref q), some (.ref 11), some (.ref 34), some (.int (nI n)), some (.int fu), some (.int (nI (amx (fun i => oV pr n (2 ^ i) i) k))), some (.int (nI k)), d8] [] g Q := by
    intro m
    induction m with
    | zero =>
      intro k g fu d8 hk h1 sg e18 e19
      obtain rfl : k = n := by omega
      refine V1N  (sg.SK S) ?_ ?_ ?_ ?_ ?_ <;> simp (disch := omega) only [oi_l, oi_n, z_nI, nIA, nIM, nIS, nIlt, nIle, nIeq, nIC, vpI, Nat.add_sub_cancel, Nat.not_le, Nat.not_lt, Nat.not_lt_zero, Nat.le_refl, not_true_eq_false, not_false_eq_true, false_imp_iff, true_imp_iff, forall_const, implies_true, Nat.reduceEqDiff, Nat.reduceLeDiff, Nat.reduceLT] <;> (try omega)
      refine c6 (sg.SK S) (by omega) hn8 hp e18 e19 (fun g2 s2 f => ?_)
      have s3 : Same [11, 18, 19, 34] h g2 := (sg.tr s2).sub (by decide)
      have l0 : oFst pr k < k := amx_lt _ _ (by omega)
      have e := e19 (2 ^ oFst pr k) (oFst pr k) (Nat.pow_pos (by decide)) (Nat.pow_lt_pow_right (by decide) l0) l0 Nat.testBit_two_pow_self
      rw [← s2.1 19 (by decide)] at e
      have x8 : 2 ^ oFst pr k < 256 := Nat.lt_of_lt_of_le (Nat.pow_lt_pow_right (by decide) l0) P8
      have k0' := k0 g2 s3 f
      have o : amx (fun i => oV pr k (2 ^ i) i) k = oFst pr k := rfl
      rw [o]
      refine V1r  (s3.SK S) ?_ ?_ <;> simp (disch := omega) only [oi_l, oi_n, z_nI, nIA, nIM, nIS, nIlt, nIle, nIeq, nIC, vpI, Nat.add_sub_cancel, Nat.not_le, Nat.not_lt, Nat.not_lt_zero, Nat.le_refl, not_true_eq_false, not_false_eq_true, false_imp_iff, true_imp_iff, forall_const, implies_true, Nat.reduceEqDiff, Nat.reduceLeDiff, Nat.reduceLT, nShl, e] <;> first | omega | exact k0'
    | succ m ih =>
      intro k g fu d8 hk h1 sg e18 e19
      have a1 := amx_lt (fun i => oV pr n (2 ^ i) i) k (by omega)
      obtain ⟨a, ea⟩ : ∃ a, a = amx (fun i => oV pr n (2 ^ i) i) k := ⟨_, rfl⟩
      have x1 : 2 ^ k < 2 ^ n := Nat.pow_lt_pow_right (by decide) (by omega)
      have x2 : 2 ^ a < 2 ^ n := Nat.pow_lt_pow_right (by decide) (by omega)
      have y1 := e19 (2 ^ k) k (Nat.pow_pos (by decide)) x1 (by omega) Nat.testBit_two_pow_self
      have y2 := e19 (2 ^ a) a (Nat.pow_pos (by decide)) x2 (by omega) Nat.testBit_two_pow_self
      have z1 := oV_b hn8 hp x1 (show k < n by omega)
      have z2 := oV_b hn8 hp x2 (show a < n by omega)
      have I' := ih (k + 1) g fu d8 (by omega) (by omega) sg e18 e19
      have hmk : ¬ n ≤ k := by omega
      rw [← ea] at a1 ⊢
      rw [amx_S, ← ea] at I'
      by_cases cc : oV pr n (2 ^ a) a < oV pr n (2 ^ k) k
      · rw [if_pos cc] at I'
        have c' : ¬ oV pr n (2 ^ k) k ≤ oV pr n (2 ^ a) a := by omega
        refine V1N  (sg.SK S) ?_ ?_ ?_ ?_ ?_ <;> simp (disch := omega) only [oi_l, oi_n, z_nI, nIA, nIM, nIS, nIlt, nIle, nIeq, nIC, vpI, Nat.add_sub_cancel, Nat.not_le, Nat.not_lt, Nat.not_lt_zero, Nat.le_refl, not_true_eq_false, not_false_eq_true, false_imp_iff, true_imp_iff, forall_const, implies_true, Nat.reduceEqDiff, Nat.reduceLeDiff, Nat.reduceLT, nShl, y1, y2, hmk, zLE, c', Int.not_le, Int.not_lt, eq_true cc] <;> first | omega | exact I'
      · rw [if_neg cc] at I'
        have c' : oV pr n (2 ^ k) k ≤ oV pr n (2 ^ a) a := by omega
        refine V1N  (sg.SK S) ?_ ?_ ?_ ?_ ?_ <;> simp (disch := omega) only [oi_l, oi_n, z_nI, nIA, nIM, nIS, nIlt, nIle, nIeq, nIC, vpI, Nat.add_sub_cancel, Nat.not_le, Nat.not_lt, Nat.not_lt_zero, Nat.le_refl, not_true_eq_false, not_false_eq_true, false_imp_iff, true_imp_iff, forall_const, implies_true, Nat.reduceEqDiff, Nat.reduceLeDiff, Nat.reduceLT, nShl, y1, y2, hmk, zLE, eq_true c', Int.not_le, Int.not_lt, cc] <;> first | omega | exact I'
  have L : ∀ s (g : pm_H) fu d7 d8, s < 2 ^ n → Same [11, 18, 19, 34] h g → (∀ i j, i < n → j < n → zI g 18 (i * 8 + j) = Int32.ofInt (pr i j)) → (∀ s' i, s < s' → s' < 2 ^ n → i < n → s'.testBit i = true → zI g 19 (s' * 8 + i) = Int32.ofInt (oV pr n s' i)) → WP 1 31 [some (.ref 17), some (.ref q), some (.ref 11), some (.ref 34), some (.int (nI n)), some (.int fu), some (.int (nI s)), d7, d8] [] g Q := by
    intro s
    induction s with
    | zero =>
      intro g fu d7 d8 hs sg e18 e19
      have N' := N (n - 1) 1 g fu d8 (by omega) (by omega) sg e18 (fun s i h0 => e19 s i h0)
      rw [amx_1] at N'
      refine V1L  (sg.SK S) ?_ ?_ <;> simp (disch := omega) only [oi_l, oi_n, z_nI, nIA, nIM, nIS, nIlt, nIle, nIeq, nIC, vpI, Nat.add_sub_cancel, Nat.not_le, Nat.not_lt, Nat.not_lt_zero, Nat.le_refl, not_true_eq_false, not_false_eq_true, false_imp_iff, true_imp_iff, forall_const, implies_true, Nat.reduceEqDiff, Nat.reduceLeDiff, Nat.reduceLT] <;> first | omega | exact N'
    | succ s ih =>
      intro g fu d7 d8 hs sg e18 e19
      have M : ∀ m l (g : pm_H) d8, l + m = n → Same [11, 18, 19, 34] h g → (∀ i j, i < n → j < n → zI g 18 (i * 8 + j) = Int32.ofInt (pr i j)) → (∀ s' i, s + 1 < s' → s' < 2 ^ n → i < n → s'.testBit i = true → zI g 19 (s' * 8 + i) = Int32.ofInt (oV pr n s' i)) → (∀ i, i < l → (s + 1).testBit i = true → zI g 19 ((s + 1) * 8 + i) = Int32.ofInt (oV pr n (s + 1) i)) → WP 1 39 [some (.ref 17), some (.ref q), some (.ref 11), some (.ref 34), some (.int (nI n)), some (.int fu), some (.int (nI (s + 1))), some (.int (nI l)), d8] [] g Q := by
        intro m
        induction m with
        | zero =>
          intro l g d8 hl sg e18 e19 f
          obtain rfl : l = n := by omega
          have I' := ih g fu (some (.int (nI l))) d8 (by omega) sg e18 (fun s' i h1 h2 h3 h4 => by
            by_cases e : s' = s + 1
            · rw [e] at h4 ⊢; exact f i h3 h4
            · exact e19 s' i (by omega) h2 h3 h4)
          have em1 : nI (s + 1) + Int32.ofInt (-1) = nI s := by rw [nI_p]; exact zI_q s
          refine V1M  (sg.SK S) ?_ ?_ ?_ <;> simp (disch := omega) only [oi_l, oi_n, z_nI, nIA, nIM, nIS, nIlt, nIle, nIeq, nIC, vpI, Nat.add_sub_cancel, Nat.not_le, Nat.not_lt, Nat.not_lt_zero, Nat.le_refl, not_true_eq_false, not_false_eq_true, false_imp_iff, true_imp_iff, forall_const, implies_true, Nat.reduceEqDiff, Nat.reduceLeDiff, Nat.reduceLT, em1] <;> first | omega | exact I'
        | succ m ihm =>
          intro l g d8 hl sg e18 e19 f
          have s8 : s + 1 < 256 := by omega
          cases hb : (s + 1).testBit l with
          | false =>
            have I' := fun d8 => ihm (l + 1) g d8 (by omega) sg e18 e19 (fun i hi hb' => by
              by_cases e : i = l
              · rw [e, hb] at hb'; cases hb'
              · exact f i (by omega) hb')
            refine V1M  (sg.SK S) ?_ ?_ ?_ <;> simp (disch := omega) only [oi_l, oi_n, z_nI, nIA, nIM, nIS, nIlt, nIle, nIeq, nIC, vpI, Nat.add_sub_cancel, Nat.not_le, Nat.not_lt, Nat.not_lt_zero, Nat.le_refl, not_true_eq_false, not_false_eq_true, false_imp_iff, true_imp_iff, forall_const, implies_true, Nat.reduceEqDiff, Nat.reduceLeDiff, Nat.reduceLT, nShr, hb, show ¬ n ≤ l by omega, ↓reduceIte, Bool.false_eq_true] <;> first | omega | exact I' _
          | true =>
            have C : ∀ va d8, va = Int32.ofInt (oV pr n (s + 1) l) → WP 1 101 [some (.ref 17), some (.ref q), some (.ref 11), some (.ref 34), some (.int (nI n)), some (.int fu), some (.int (nI (s + 1))), some (.int (nI l)), some (.int d8)] [.int va, .int (nI ((s + 1) * 8 + l)), .ref 19] g Q := by
              intro va d8 ev
              refine V1c  (sg.SK S) ?_ ?_ <;> simp (disch := omega) only [oi_l, oi_n, z_nI, nIA, nIM, nIS, nIlt, nIle, nIeq, nIC, vpI, Nat.add_sub_cancel, Nat.not_le, Nat.not_lt, Nat.not_lt_zero, Nat.le_refl, not_true_eq_false, not_false_eq_true, false_imp_iff, true_imp_iff, forall_const, implies_true, Nat.reduceEqDiff, Nat.reduceLeDiff, Nat.reduceLT] <;> (try omega)
              refine ihm (l + 1) _ _ (by omega) (sg.I 19 _ _ (by decide)) (by simp only [zI_yI, Nat.reduceEqDiff, if_false]; exact e18) (fun s' i h1 h2 h3 h4 => ?_) (fun i hi hb' => ?_)
              · simp only [zI_yI, va_upA, if_true]
                rw [if_neg (by omega)]; exact e19 s' i h1 h2 h3 h4
              · simp only [zI_yI, va_upA, if_true]
                by_cases e : i = l
                · rw [e, if_pos rfl, ev]
                · rw [if_neg (by omega)]; exact f i (by omega) hb'
            refine V1M  (sg.SK S) ?_ ?_ ?_ <;> simp (disch := omega) only [oi_l, oi_n, z_nI, nIA, nIM, nIS, nIlt, nIle, nIeq, nIC, vpI, Nat.add_sub_cancel, Nat.not_le, Nat.not_lt, Nat.not_lt_zero, Nat.le_refl, not_true_eq_false, not_false_eq_true, false_imp_iff, true_imp_iff, forall_const, implies_true, Nat.reduceEqDiff, Nat.reduceLeDiff, Nat.reduceLT, nShr, hb, show ¬ n ≤ l by omega, ↓reduceIte] <;> (try omega)
            have e19' : ∀ j, j < n → (s + 1).testBit j = false → zI g 19 (((s + 1) ||| 2 ^ j) * 8 + j) = Int32.ofInt (oV pr n ((s + 1) ||| 2 ^ j) j) := fun j hj hb' => e19 _ j (by have := or_gt hb'; omega) (or_lt hs hj) hj (by rw [Nat.testBit_or, Nat.testBit_two_pow_self, Bool.or_true])
            refine c3 (sg.SK S) hn8 hp hs (by omega) e18 e19' ?_
            have ov := oV_eq (pr := pr) (last := l) (show 0 < s + 1 by omega) hs
            cases ho : oN pr n (s + 1) l with
            | none =>
              rw [ho] at ov
              have C' := C (nI 0) (Int32.ofInt (-1)) (by rw [ov]; rfl)
              refine V1b  (sg.SK S) ?_ ?_ <;> simp (disch := omega) only [oi_l, oi_n, z_nI, nIA, nIM, nIS, nIlt, nIle, nIeq, nIC, vpI, Nat.add_sub_cancel, Nat.not_le, Nat.not_lt, Nat.not_lt_zero, Nat.le_refl, not_true_eq_false, not_false_eq_true, false_imp_iff, true_imp_iff, forall_const, implies_true, Nat.reduceEqDiff, Nat.reduceLeDiff, Nat.reduceLT, enO] <;> first | omega | exact C'
            | some j =>
              rw [ho] at ov
              obtain ⟨j1, j2⟩ := am2_p ho
              have j2' : (s + 1).testBit j = false := by simpa using j2
              have y1 := e18 l j (by omega) j1
              have y2 := e19' j j1 j2'
              have o8 := or8 hn8 hs j1
              have n1 := nI_ne1 (q := j) (by omega)
              have C' := C (Int32.ofInt (oV pr n (s + 1) l)) (nI j) rfl
              have ef : pr l j + oV pr n ((s + 1) ||| 2 ^ j) j = oV pr n (s + 1) l := ov.symm
              refine V1b  (sg.SK S) ?_ ?_ <;> simp (disch := omega) only [oi_l, oi_n, z_nI, nIA, nIM, nIS, nIlt, nIle, nIeq, nIC, vpI, Nat.add_sub_cancel, Nat.not_le, Nat.not_lt, Nat.not_lt_zero, Nat.le_refl, not_true_eq_false, not_false_eq_true, false_imp_iff, true_imp_iff, forall_const, implies_true, Nat.reduceEqDiff, Nat.reduceLeDiff, Nat.reduceLT, enO, n1] <;> (try omega)
              refine V4  (sg.SK S) ?_ ?_ ?_ <;> simp (disch := omega) only [oi_l, oi_n, z_nI, nIA, nIM, nIS, nIlt, nIle, nIeq, nIC, vpI, Nat.add_sub_cancel, Nat.not_le, Nat.not_lt, Nat.not_lt_zero, Nat.le_refl, not_true_eq_false, not_false_eq_true, false_imp_iff, true_imp_iff, forall_const, implies_true, Nat.reduceEqDiff, Nat.reduceLeDiff, Nat.reduceLT, nShl, nOr, y1, y2, zADD, ef] <;> first | omega | exact C'
      have M' := M n 0 g d8 (by omega) sg e18 e19 (fun i hi => absurd hi (Nat.not_lt_zero _))
      refine V1L  (sg.SK S) ?_ ?_ <;> simp (disch := omega) only [oi_l, oi_n, z_nI, nIA, nIM, nIS, nIlt, nIle, nIeq, nIC, vpI, Nat.add_sub_cancel, Nat.not_le, Nat.not_lt, Nat.not_lt_zero, Nat.le_refl, not_true_eq_false, not_false_eq_true, false_imp_iff, true_imp_iff, forall_const, implies_true, Nat.reduceEqDiff, Nat.reduceLeDiff, Nat.reduceLT, Nat.le_zero, Nat.succ_ne_zero] <;> first | omega | exact M'
  refine V1 S q2 ?_
  rw [q4, em]
  refine c2 S bo hc hq hn hn8 (fun g sg e18 => ?_)
  rw [← epr] at e18
  have s2 : Same [11, 18, 19, 34] h g := sg.sub (by decide)
  have pos : 0 < 2 ^ n := Nat.pow_pos (by decide)
  have L' := L (2 ^ n - 1) g (nI (2 ^ n - 1)) none none (by omega) s2 e18 (fun s' i h1 h2 => by omega)
  refine V1a  (s2.SK S) ?_ <;> simp (disch := omega) only [oi_l, oi_n, z_nI, nIA, nIM, nIS, nIlt, nIle, nIeq, nIC, vpI, Nat.add_sub_cancel, Nat.not_le, Nat.not_lt, Nat.not_lt_zero, Nat.le_refl, not_true_eq_false, not_false_eq_true, false_imp_iff, true_imp_iff, forall_const, implies_true, Nat.reduceEqDiff, Nat.reduceLeDiff, Nat.reduceLT, nShl] <;> first | omega | exact L'
end ORC

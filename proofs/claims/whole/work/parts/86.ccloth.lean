/-! readCloth of the class -/
theorem V39 {h : pm_H} {Q : Option Value → pm_H → Prop} {b : Nat} {q : Nat} {d3 : Option Value} {d4 : Option Value} {d5 : Option Value} {d6 : Option Value} (S : SK h) (k1 : WP 68 0 [some (.ref 2), some (.retAddr 2), none] [] h (fun v1 h1 => WP 39 9 [some (.ref 1), some (.ref b), some (.ref q), d3, d4, d5, d6] (v1.toList ++ []) h1 Q)) : WP 39 0 [some (.ref 1), some (.ref b), some (.ref q), d3, d4, d5, d6] [] h Q :=
  B39_0 (S.T 1) (S.R 1 0) (S.T 2) k1
theorem V39z {h : pm_H} {Q : Option Value → pm_H → Prop} {b : Nat} {q : Nat} {z : Int32} {d3 : Option Value} {d4 : Option Value} {d5 : Option Value} {d6 : Option Value} (S : SK h) (k2 : (z = 0) → WP 39 23 [some (.ref 1), some (.ref b), some (.ref q), some (.int z), d4, d5, d6] [] h Q) (k3 : (¬ z = 0) → WP 40 0 [some (.ref 1)] [] h (fun v1 h1 => WP 39 18 [some (.ref 1), some (.ref b), some (.ref q), some (.int z), d4, d5, d6] (v1.toList ++ []) h1 Q)) : WP 39 9 [some (.ref 1), some (.ref b), some (.ref q), d3, d4, d5, d6] [.int z] h Q :=
  B39_9 (fun c1 => k2 c1) (fun c1 => B39_14 (S.T 1) (k3 c1))
theorem V39a {h : pm_H} {Q : Option Value → pm_H → Prop} {b : Nat} {q : Nat} {tu : Int32} {z : Int32} {d4 : Option Value} {d5 : Option Value} {d6 : Option Value} (S : SK h) (k2 : (¬ z = 0) → WP 39 23 [some (.ref 1), some (.ref b), some (.ref q), some (.int tu), d4, d5, d6] [] h Q) (k3 : (z = 0) → Q (some (.int (Int32.ofInt 0))) h) : WP 39 18 [some (.ref 1), some (.ref b), some (.ref q), some (.int tu), d4, d5, d6] [.int z] h Q :=
  B39_18 (fun c1 => k2 c1) (fun c1 => B39_21 oi0 (k3 c1))
theorem V39y {h : pm_H} {Q : Option Value → pm_H → Prop} {b : Nat} {q : Nat} {tu : Int32} {d4 : Option Value} {d5 : Option Value} {d6 : Option Value} (S : SK h) (t2 : (¬ (zI h 2 4) = (Int32.ofInt 1)) → zT h b = 2) (k3 : (¬ (zI h 2 4) = (Int32.ofInt 1)) → WP 17 0 [some (.ref b), some (.int (Int32.ofInt (-1))), none] [] h (fun v1 h1 => WP 39 34 [some (.ref 1), some (.ref b), some (.ref q), some (.int tu), d4, d5, d6] (v1.toList ++ []) h1 Q)) (g4 : ((zI h 2 4) = (Int32.ofInt 1)) → vp_in (zI h 2 5) 800) (t5 : ((zI h 2 4) = (Int32.ofInt 1)) → zT h b = 2) (k6 : ((zI h 2 4) = (Int32.ofInt 1)) → WP 17 0 [some (.ref b), some (.int ((zI h 3 ((zI h 2 5)).toNatClampNeg) - (Int32.ofInt 97))), none] [] h (fun v1 h1 => WP 39 34 [some (.ref 1), some (.ref b), some (.ref q), some (.int tu), d4, d5, d6] (v1.toList ++ []) h1 Q)) : WP 39 23 [some (.ref 1), some (.ref b), some (.ref q), some (.int tu), d4, d5, d6] [] h Q :=
  B39_23 (S.T 1) (S.R 1 0) (S.T 2) (B70_0 (S.T 2) (fun c1 => B70_23 (B70_24 (B39_31 (t2 c1) (k3 c1)))) (fun c1 => B70_8 (S.T 2) (S.R 2 0) ⟨(S.T 3), (S.bd 3 (g4 c1))⟩ (B70_24 (B39_31 (t5 c1) (k6 c1)))))
theorem V39b {h : pm_H} {Q : Option Value → pm_H → Prop} {b : Nat} {q : Nat} {tu : Int32} {s : Int32} {d4 : Option Value} {d5 : Option Value} {d6 : Option Value} (S : SK h) (t1 : zT h b = 2) (k2 : WP 15 0 [some (.ref b), some (.int s)] [] h (fun v1 h1 => WP 39 42 [some (.ref 1), some (.ref b), some (.ref q), some (.int tu), some (.int s), d5, d6] (v1.toList ++ []) h1 Q)) : WP 39 34 [some (.ref 1), some (.ref b), some (.ref q), some (.int tu), d4, d5, d6] [.int s] h Q :=
  B39_34 t1 k2
theorem V39c {h : pm_H} {Q : Option Value → pm_H → Prop} {b : Nat} {q : Nat} {tu : Int32} {s : Int32} {p : Nat} {d5 : Option Value} {d6 : Option Value} (S : SK h) (k1 : WP 66 0 [some (.ref 2), none] [] h (fun v1 h1 => WP 39 66 [some (.ref 1), some (.ref b), some (.ref q), some (.int tu), some (.int s), some (.ref p), some (.int (Int32.ofInt 0))] (v1.toList ++ []) h1 Q)) : WP 39 42 [some (.ref 1), some (.ref b), some (.ref q), some (.int tu), some (.int s), d5, d6] [.ref p] h Q :=
  B39_42 (B39_56 (S.T 1) (S.R 1 0) (S.T 2) k1)
theorem V39n {h : pm_H} {Q : Option Value → pm_H → Prop} {b : Nat} {q : Nat} {tu : Int32} {s : Int32} {d5 : Option Value} {d6 : Option Value} (S : SK h) (k1 : Q (some (.int (Int32.ofInt 0))) (yI (yI h 1 1 (Int32.ofInt 6)) 1 2 (zI h 2 5))) : WP 39 42 [some (.ref 1), some (.ref b), some (.ref q), some (.int tu), some (.int s), d5, d6] [.null] h Q :=
  B39_42n (B39_49 (S.T 1) (B44_0 (S.T 1) (S.R 1 0) (S.T 2) (B45_0 (S.T 1) oi0 (B44_12 oi0 (B39_55 oi0 k1)))))
theorem V39d {h : pm_H} {Q : Option Value → pm_H → Prop} {b : Nat} {q : Nat} {tu : Int32} {s : Int32} {p : Nat} {sh : Int32} (S : SK h) (k3 : (¬ (zI h 2 4) = (Int32.ofInt 3)) → WP 39 106 [some (.ref 1), some (.ref b), some (.ref q), some (.int tu), some (.int s), some (.ref p), some (.int sh)] [] h Q) (g4 : ((zI h 2 4) = (Int32.ofInt 3)) → vp_in (zI h 2 5) 800) (k7 : ((zI h 2 4) = (Int32.ofInt 3)) → (¬ (zI h 3 ((zI h 2 5)).toNatClampNeg) = (Int32.ofInt 43)) → WP 39 106 [some (.ref 1), some (.ref b), some (.ref q), some (.int tu), some (.int s), some (.ref p), some (.int sh)] [] h Q) (k9 : ((zI h 2 4) = (Int32.ofInt 3)) → ((zI h 3 ((zI h 2 5)).toNatClampNeg) = (Int32.ofInt 43)) → WP 42 0 [some (.ref 1), some (.int (Int32.ofInt 0)), some (.int (Int32.ofInt 50)), none] [] h (fun v1 h1 => WP 39 85 [some (.ref 1), some (.ref b), some (.ref q), some (.int tu), some (.int s), some (.ref p), some (.int sh)] (v1.toList ++ []) h1 Q)) : WP 39 66 [some (.ref 1), some (.ref b), some (.ref q), some (.int tu), some (.int s), some (.ref p), some (.int sh)] [] h Q :=
  B39_66 (S.T 1) (S.R 1 0) (S.T 2) (B73_0 (S.T 2) (fun c1 => B73_25 (B73_26 oi0 (B39_75 (fun _ => k3 c1) (fun q => absurd (by decide) q)))) (fun c1 => B73_8 (S.T 2) (S.R 2 0) ⟨(S.T 3), (S.bd 3 (g4 c1))⟩ (fun c5 => B73_25 (B73_26 oi0 (B39_75 (fun _ => k7 c1 c5) (fun q => absurd (by decide) q)))) (fun c5 => B73_21 (B73_26 oi1 (B39_75 (fun q => absurd q (by decide)) (fun _ => B39_78 (S.T 1) (k9 c1 c5)))))))
theorem V39e {h : pm_H} {Q : Option Value → pm_H → Prop} {b : Nat} {q : Nat} {tu : Int32} {s : Int32} {p : Nat} {sh : Int32} {z : Int32} (S : SK h) (k2 : (¬ z = 0) → WP 69 0 [some (.ref 2), none, none] [] h (fun v1 h1 => WP 39 97 [some (.ref 1), some (.ref b), some (.ref q), some (.int tu), some (.int s), some (.ref p), some (.int sh)] (v1.toList ++ []) h1 Q)) (k3 : (z = 0) → Q (some (.int (Int32.ofInt 0))) h) : WP 39 85 [some (.ref 1), some (.ref b), some (.ref q), some (.int tu), some (.int s), some (.ref p), some (.int sh)] [.int z] h Q :=
  B39_85 (fun c1 => B39_90 (S.T 1) (S.R 1 0) (S.T 2) (k2 c1)) (fun c1 => B39_88 oi0 (k3 c1))
theorem V39f {h : pm_H} {Q : Option Value → pm_H → Prop} {b : Nat} {q : Nat} {tu : Int32} {s : Int32} {p : Nat} {sh : Int32} {v : Int32} (S : SK h) (k1 : WP 66 0 [some (.ref 2), none] [] h (fun v1 h1 => WP 39 106 [some (.ref 1), some (.ref b), some (.ref q), some (.int tu), some (.int s), some (.ref p), some (.int v)] (v1.toList ++ []) h1 Q)) : WP 39 97 [some (.ref 1), some (.ref b), some (.ref q), some (.int tu), some (.int s), some (.ref p), some (.int sh)] [.int v] h Q :=
  B39_97 (S.T 1) (S.R 1 0) (S.T 2) k1
theorem V38 {h : pm_H} {Q : Option Value → pm_H → Prop} {b : Nat} {q : Nat} {d3 : Option Value} (S : SK h) (k1 : WP 38 2 [some (.ref 1), some (.ref b), some (.ref q), some (.int (Int32.ofInt 0))] [] h Q) : WP 38 0 [some (.ref 1), some (.ref b), some (.ref q), d3] [] h Q :=
  B38_0 (k1)
theorem V38L {h : pm_H} {Q : Option Value → pm_H → Prop} {b : Nat} {q : Nat} {k : Nat} (S : SK h) (k2 : ((Int32.ofInt 12) < (nI k)) → WP 43 0 [some (.ref 1)] [] h (fun v1 h1 => WP 38 109 [some (.ref 1), some (.ref b), some (.ref q), some (.int (nI k))] (v1.toList ++ []) h1 Q)) (k3 : (¬ (Int32.ofInt 12) < (nI k)) → WP 66 0 [some (.ref 2), none] [] h (fun v1 h1 => WP 38 15 [some (.ref 1), some (.ref b), some (.ref q), some (.int (nI k))] (v1.toList ++ []) h1 Q)) : WP 38 2 [some (.ref 1), some (.ref b), some (.ref q), some (.int (nI k))] [] h Q :=
  B38_2 (fun c1 => B38_105 (S.T 1) (k2 c1)) (fun c1 => B38_8 (S.T 1) (S.R 1 0) (S.T 2) (k3 c1))
theorem V38a {h : pm_H} {Q : Option Value → pm_H → Prop} {b : Nat} {q : Nat} {k : Nat} (S : SK h) (k3 : (¬ (zI h 2 4) = (Int32.ofInt 1)) → WP 68 0 [some (.ref 2), some (.retAddr 2), none] [] h (fun v1 h1 => WP 38 34 [some (.ref 1), some (.ref b), some (.ref q), some (.int (nI k))] (v1.toList ++ []) h1 Q)) (k6 : ((zI h 2 4) = (Int32.ofInt 1)) → (¬ ((zI h 2 3) - (zI h 2 5)) = (Int32.ofInt 1)) → WP 68 0 [some (.ref 2), some (.retAddr 2), none] [] h (fun v1 h1 => WP 38 34 [some (.ref 1), some (.ref b), some (.ref q), some (.int (nI k))] (v1.toList ++ []) h1 Q)) (k8 : ((zI h 2 4) = (Int32.ofInt 1)) → (((zI h 2 3) - (zI h 2 5)) = (Int32.ofInt 1)) → WP 38 42 [some (.ref 1), some (.ref b), some (.ref q), some (.int (nI k))] [] h Q) : WP 38 15 [some (.ref 1), some (.ref b), some (.ref q), some (.int (nI k))] [] h Q :=
  B38_15 (S.T 1) (S.R 1 0) (S.T 2) (B75_0 (S.T 2) (fun c1 => B75_25 (B75_26 oi0 (B38_22 (fun q => absurd (by decide) q) (fun _ => B38_25 (S.T 1) (S.R 1 0) (S.T 2) (k3 c1))))) (fun c1 => B75_8 (S.T 2) (fun c4 => B75_25 (B75_26 oi0 (B38_22 (fun q => absurd (by decide) q) (fun _ => B38_25 (S.T 1) (S.R 1 0) (S.T 2) (k6 c1 c4))))) (fun c4 => B75_21 (B75_26 oi1 (B38_22 (fun _ => k8 c1 c4) (fun q => absurd q (by decide)))))))
theorem V38z {h : pm_H} {Q : Option Value → pm_H → Prop} {b : Nat} {q : Nat} {z : Int32} {k : Nat} (S : SK h) (k2 : (¬ z = 0) → WP 38 42 [some (.ref 1), some (.ref b), some (.ref q), some (.int (nI k))] [] h Q) (k4 : (z = 0) → (¬ (zI h 2 4) = (Int32.ofInt 4)) → Q (some (.int (Int32.ofInt 0))) (yI (yI h 1 1 (Int32.ofInt 2)) 1 2 (zI h 2 5))) (k5 : (z = 0) → ((zI h 2 4) = (Int32.ofInt 4)) → Q (some (.int (Int32.ofInt 0))) (yI (yI h 1 1 (Int32.ofInt 1)) 1 2 (zI h 2 5))) : WP 38 34 [some (.ref 1), some (.ref b), some (.ref q), some (.int (nI k))] [.int z] h Q :=
  B38_34 (fun c1 => k2 c1) (fun c1 => B38_37 (S.T 1) (B43_0 (S.T 1) (S.R 1 0) (S.T 2) (fun c3 => B43_16 (B43_17 (S.T 1) (S.R 1 0) (S.T 2) (S.T 1) (B45_0 (S.T 1) oi0 (B43_27 oi0 (B38_41 oi0 (k4 c1 c3)))))) (fun c3 => B43_12 (B43_17 (S.T 1) (S.R 1 0) (S.T 2) (S.T 1) (B45_0 (S.T 1) oi0 (B43_27 oi0 (B38_41 oi0 (k5 c1 c3))))))))
theorem V38b {h : pm_H} {Q : Option Value → pm_H → Prop} {b : Nat} {q : Nat} {k : Nat} (S : SK h) (t1 : zT h q = 3) (k3 : ((zI h q 2) < (Int32.ofInt 12)) → WP 39 0 [some (.ref 1), some (.ref b), some (.ref q), none, none, none, none] [] h (fun v1 h1 => WP 38 63 [some (.ref 1), some (.ref b), some (.ref q), some (.int (nI k))] (v1.toList ++ []) h1 Q)) (k4 : (¬ (zI h q 2) < (Int32.ofInt 12)) → Q (some (.int (Int32.ofInt 0))) (yI (yI h 1 1 (Int32.ofInt 3)) 1 2 (zI h 2 5))) : WP 38 42 [some (.ref 1), some (.ref b), some (.ref q), some (.int (nI k))] [] h Q :=
  B38_42 t1 (fun c2 => B38_57 (S.T 1) (k3 c2)) (fun c2 => B38_51 (S.T 1) (B44_0 (S.T 1) (S.R 1 0) (S.T 2) (B45_0 (S.T 1) oi0 (B44_12 oi0 (B38_56 oi0 (k4 c2))))))
theorem V38c {h : pm_H} {Q : Option Value → pm_H → Prop} {b : Nat} {q : Nat} {z : Int32} {k : Nat} (S : SK h) (k7 : (¬ z = 0) → (¬ (zI h 2 4) = (Int32.ofInt 3)) → (¬ (zI h 2 4) = (Int32.ofInt 3)) → (¬ (zI h 2 4) = (Int32.ofInt 4)) → Q (some (.int (Int32.ofInt 0))) (yI (yI h 1 1 (Int32.ofInt 2)) 1 2 (zI h 2 5))) (k8 : (¬ z = 0) → (¬ (zI h 2 4) = (Int32.ofInt 3)) → (¬ (zI h 2 4) = (Int32.ofInt 3)) → ((zI h 2 4) = (Int32.ofInt 4)) → Q (some (.int (Int32.ofInt 0))) (yI (yI h 1 1 (Int32.ofInt 1)) 1 2 (zI h 2 5))) (g9 : (¬ z = 0) → (¬ (zI h 2 4) = (Int32.ofInt 3)) → ((zI h 2 4) = (Int32.ofInt 3)) → vp_in (zI h 2 5) 800) (k13 : (¬ z = 0) → (¬ (zI h 2 4) = (Int32.ofInt 3)) → ((zI h 2 4) = (Int32.ofInt 3)) → (¬ (zI h 3 ((zI h 2 5)).toNatClampNeg) = (Int32.ofInt 44)) → (¬ (zI h 2 4) = (Int32.ofInt 4)) → Q (some (.int (Int32.ofInt 0))) (yI (yI h 1 1 (Int32.ofInt 2)) 1 2 (zI h 2 5))) (k14 : (¬ z = 0) → (¬ (zI h 2 4) = (Int32.ofInt 3)) → ((zI h 2 4) = (Int32.ofInt 3)) → (¬ (zI h 3 ((zI h 2 5)).toNatClampNeg) = (Int32.ofInt 44)) → ((zI h 2 4) = (Int32.ofInt 4)) → Q (some (.int (Int32.ofInt 0))) (yI (yI h 1 1 (Int32.ofInt 1)) 1 2 (zI h 2 5))) (k16 : (¬ z = 0) → (¬ (zI h 2 4) = (Int32.ofInt 3)) → ((zI h 2 4) = (Int32.ofInt 3)) → ((zI h 3 ((zI h 2 5)).toNatClampNeg) = (Int32.ofInt 44)) → WP 38 2 [some (.ref 1), some (.ref b), some (.ref q), some (.int ((nI k) + (Int32.ofInt 1)))] [] h Q) (g17 : (¬ z = 0) → ((zI h 2 4) = (Int32.ofInt 3)) → vp_in (zI h 2 5) 800) (k23 : (¬ z = 0) → ((zI h 2 4) = (Int32.ofInt 3)) → (¬ (zI h 3 ((zI h 2 5)).toNatClampNeg) = (Int32.ofInt 59)) → (¬ (zI h 2 4) = (Int32.ofInt 3)) → (¬ (zI h 2 4) = (Int32.ofInt 4)) → Q (some (.int (Int32.ofInt 0))) (yI (yI h 1 1 (Int32.ofInt 2)) 1 2 (zI h 2 5))) (k24 : (¬ z = 0) → ((zI h 2 4) = (Int32.ofInt 3)) → (¬ (zI h 3 ((zI h 2 5)).toNatClampNeg) = (Int32.ofInt 59)) → (¬ (zI h 2 4) = (Int32.ofInt 3)) → ((zI h 2 4) = (Int32.ofInt 4)) → Q (some (.int (Int32.ofInt 0))) (yI (yI h 1 1 (Int32.ofInt 1)) 1 2 (zI h 2 5))) (g25 : (¬ z = 0) → ((zI h 2 4) = (Int32.ofInt 3)) → (¬ (zI h 3 ((zI h 2 5)).toNatClampNeg) = (Int32.ofInt 59)) → ((zI h 2 4) = (Int32.ofInt 3)) → vp_in (zI h 2 5) 800) (k29 : (¬ z = 0) → ((zI h 2 4) = (Int32.ofInt 3)) → (¬ (zI h 3 ((zI h 2 5)).toNatClampNeg) = (Int32.ofInt 59)) → ((zI h 2 4) = (Int32.ofInt 3)) → (¬ (zI h 3 ((zI h 2 5)).toNatClampNeg) = (Int32.ofInt 44)) → (¬ (zI h 2 4) = (Int32.ofInt 4)) → Q (some (.int (Int32.ofInt 0))) (yI (yI h 1 1 (Int32.ofInt 2)) 1 2 (zI h 2 5))) (k30 : (¬ z = 0) → ((zI h 2 4) = (Int32.ofInt 3)) → (¬ (zI h 3 ((zI h 2 5)).toNatClampNeg) = (Int32.ofInt 59)) → ((zI h 2 4) = (Int32.ofInt 3)) → (¬ (zI h 3 ((zI h 2 5)).toNatClampNeg) = (Int32.ofInt 44)) → ((zI h 2 4) = (Int32.ofInt 4)) → Q (some (.int (Int32.ofInt 0))) (yI (yI h 1 1 (Int32.ofInt 1)) 1 2 (zI h 2 5))) (k32 : (¬ z = 0) → ((zI h 2 4) = (Int32.ofInt 3)) → (¬ (zI h 3 ((zI h 2 5)).toNatClampNeg) = (Int32.ofInt 59)) → ((zI h 2 4) = (Int32.ofInt 3)) → ((zI h 3 ((zI h 2 5)).toNatClampNeg) = (Int32.ofInt 44)) → WP 38 2 [some (.ref 1), some (.ref b), some (.ref q), some (.int ((nI k) + (Int32.ofInt 1)))] [] h Q) (k34 : (¬ z = 0) → ((zI h 2 4) = (Int32.ofInt 3)) → ((zI h 3 ((zI h 2 5)).toNatClampNeg) = (Int32.ofInt 59)) → Q (some (.int (Int32.ofInt 1))) h) (k35 : (z = 0) → Q (some (.int (Int32.ofInt 0))) h) : WP 38 63 [some (.ref 1), some (.ref b), some (.ref q), some (.int (nI k))] [.int z] h Q :=
  B38_63 (fun c1 => B38_68 (S.T 1) (S.R 1 0) (S.T 2) (B73_0 (S.T 2) (fun c2 => B73_25 (B73_26 oi0 (B38_77 (fun _ => B38_82 (S.T 1) (S.R 1 0) (S.T 2) (B73_0 (S.T 2) (fun c4 => B73_25 (B73_26 oi0 (B38_91 (fun q => absurd (by decide) q) (fun _ => B38_94 (S.T 1) (B43_0 (S.T 1) (S.R 1 0) (S.T 2) (fun c6 => B43_16 (B43_17 (S.T 1) (S.R 1 0) (S.T 2) (S.T 1) (B45_0 (S.T 1) oi0 (B43_27 oi0 (B38_98 oi0 (k7 c1 c2 c4 c6)))))) (fun c6 => B43_12 (B43_17 (S.T 1) (S.R 1 0) (S.T 2) (S.T 1) (B45_0 (S.T 1) oi0 (B43_27 oi0 (B38_98 oi0 (k8 c1 c2 c4 c6))))))))))) (fun c4 => B73_8 (S.T 2) (S.R 2 0) ⟨(S.T 3), (S.bd 3 (g9 c1 c2 c4))⟩ (fun c10 => B73_25 (B73_26 oi0 (B38_91 (fun q => absurd (by decide) q) (fun _ => B38_94 (S.T 1) (B43_0 (S.T 1) (S.R 1 0) (S.T 2) (fun c12 => B43_16 (B43_17 (S.T 1) (S.R 1 0) (S.T 2) (S.T 1) (B45_0 (S.T 1) oi0 (B43_27 oi0 (B38_98 oi0 (k13 c1 c2 c4 c10 c12)))))) (fun c12 => B43_12 (B43_17 (S.T 1) (S.R 1 0) (S.T 2) (S.T 1) (B45_0 (S.T 1) oi0 (B43_27 oi0 (B38_98 oi0 (k14 c1 c2 c4 c10 c12))))))))))) (fun c10 => B73_21 (B73_26 oi1 (B38_91 (fun _ => B38_99 (k16 c1 c2 c4 c10)) (fun q => absurd q (by decide)))))))) (fun q => absurd (by decide) q)))) (fun c2 => B73_8 (S.T 2) (S.R 2 0) ⟨(S.T 3), (S.bd 3 (g17 c1 c2))⟩ (fun c18 => B73_25 (B73_26 oi0 (B38_77 (fun _ => B38_82 (S.T 1) (S.R 1 0) (S.T 2) (B73_0 (S.T 2) (fun c20 => B73_25 (B73_26 oi0 (B38_91 (fun q => absurd (by decide) q) (fun _ => B38_94 (S.T 1) (B43_0 (S.T 1) (S.R 1 0) (S.T 2) (fun c22 => B43_16 (B43_17 (S.T 1) (S.R 1 0) (S.T 2) (S.T 1) (B45_0 (S.T 1) oi0 (B43_27 oi0 (B38_98 oi0 (k23 c1 c2 c18 c20 c22)))))) (fun c22 => B43_12 (B43_17 (S.T 1) (S.R 1 0) (S.T 2) (S.T 1) (B45_0 (S.T 1) oi0 (B43_27 oi0 (B38_98 oi0 (k24 c1 c2 c18 c20 c22))))))))))) (fun c20 => B73_8 (S.T 2) (S.R 2 0) ⟨(S.T 3), (S.bd 3 (g25 c1 c2 c18 c20))⟩ (fun c26 => B73_25 (B73_26 oi0 (B38_91 (fun q => absurd (by decide) q) (fun _ => B38_94 (S.T 1) (B43_0 (S.T 1) (S.R 1 0) (S.T 2) (fun c28 => B43_16 (B43_17 (S.T 1) (S.R 1 0) (S.T 2) (S.T 1) (B45_0 (S.T 1) oi0 (B43_27 oi0 (B38_98 oi0 (k29 c1 c2 c18 c20 c26 c28)))))) (fun c28 => B43_12 (B43_17 (S.T 1) (S.R 1 0) (S.T 2) (S.T 1) (B45_0 (S.T 1) oi0 (B43_27 oi0 (B38_98 oi0 (k30 c1 c2 c18 c20 c26 c28))))))))))) (fun c26 => B73_21 (B73_26 oi1 (B38_91 (fun _ => B38_99 (k32 c1 c2 c18 c20 c26)) (fun q => absurd q (by decide)))))))) (fun q => absurd (by decide) q)))) (fun c18 => B73_21 (B73_26 oi1 (B38_77 (fun q => absurd q (by decide)) (fun _ => B38_80 oi1 (k34 c1 c2 c18)))))))) (fun c1 => B38_66 oi0 (k35 c1))
theorem V37 {h : pm_H} {Q : Option Value → pm_H → Prop} {b : Nat} {d2 : Option Value} {d3 : Option Value} (S : SK h) (t1 : zT h b = 2) (k3 : ((zI h b 3) < (Int32.ofInt 6)) → WP 40 0 [some (.ref 1)] [] h (fun v1 h1 => WP 37 19 [some (.ref 1), some (.ref b), d2, d3] (v1.toList ++ []) h1 Q)) (k4 : (¬ (zI h b 3) < (Int32.ofInt 6)) → Q (some (.int (Int32.ofInt 0))) (yI (yI h 1 1 (Int32.ofInt 3)) 1 2 (zI h 2 5))) : WP 37 0 [some (.ref 1), some (.ref b), d2, d3] [] h Q :=
  B37_0 t1 (fun c2 => B37_15 (S.T 1) (k3 c2)) (fun c2 => B37_9 (S.T 1) (B44_0 (S.T 1) (S.R 1 0) (S.T 2) (B45_0 (S.T 1) oi0 (B44_12 oi0 (B37_14 oi0 (k4 c2))))))
theorem V37a {h : pm_H} {Q : Option Value → pm_H → Prop} {b : Nat} {z : Int32} {d2 : Option Value} {d3 : Option Value} (S : SK h) (t3 : (¬ z = 0) → (¬ (zI h 2 4) = (Int32.ofInt 1)) → zT h b = 2) (k4 : (¬ z = 0) → (¬ (zI h 2 4) = (Int32.ofInt 1)) → WP 18 0 [some (.ref b), some (.int (Int32.ofInt (-1))), none] [] h (fun v1 h1 => WP 37 37 [some (.ref 1), some (.ref b), some (.int (Int32.ofInt (-1))), d3] (v1.toList ++ []) h1 Q)) (g5 : (¬ z = 0) → ((zI h 2 4) = (Int32.ofInt 1)) → vp_in (zI h 2 5) 800) (t6 : (¬ z = 0) → ((zI h 2 4) = (Int32.ofInt 1)) → zT h b = 2) (k7 : (¬ z = 0) → ((zI h 2 4) = (Int32.ofInt 1)) → WP 18 0 [some (.ref b), some (.int ((zI h 3 ((zI h 2 5)).toNatClampNeg) - (Int32.ofInt 97))), none] [] h (fun v1 h1 => WP 37 37 [some (.ref 1), some (.ref b), some (.int ((zI h 3 ((zI h 2 5)).toNatClampNeg) - (Int32.ofInt 97))), d3] (v1.toList ++ []) h1 Q)) (k8 : (z = 0) → Q (some (.int (Int32.ofInt 0))) h) : WP 37 19 [some (.ref 1), some (.ref b), d2, d3] [.int z] h Q :=
  B37_19 (fun c1 => B37_24 (S.T 1) (S.R 1 0) (S.T 2) (B70_0 (S.T 2) (fun c2 => B70_23 (B70_24 (B37_31 (t3 c1 c2) (k4 c1 c2)))) (fun c2 => B70_8 (S.T 2) (S.R 2 0) ⟨(S.T 3), (S.bd 3 (g5 c1 c2))⟩ (B70_24 (B37_31 (t6 c1 c2) (k7 c1 c2)))))) (fun c1 => B37_22 oi0 (k8 c1))
theorem V37b {h : pm_H} {Q : Option Value → pm_H → Prop} {b : Nat} {z : Int32} {d3 : Option Value} {v : Nat} (S : SK h) (k2 : (z = (Int32.ofInt (-1))) → WP 37 47 [some (.ref 1), some (.ref b), some (.int (nI v)), d3] [] h Q) (k3 : (¬ z = (Int32.ofInt (-1))) → Q (some (.int (Int32.ofInt 0))) (yI (yI h 1 1 (Int32.ofInt 5)) 1 2 (zI h 2 5))) : WP 37 37 [some (.ref 1), some (.ref b), some (.int (nI v)), d3] [.int z] h Q :=
  B37_37 (fun c1 => k2 c1) (fun c1 => B37_41 (S.T 1) (B44_0 (S.T 1) (S.R 1 0) (S.T 2) (B45_0 (S.T 1) oi0 (B44_12 oi0 (B37_46 oi0 (k3 c1))))))
theorem V37c {h : pm_H} {Q : Option Value → pm_H → Prop} {b : Nat} {q : Nat} {z : Int32} {v : Nat} (S : SK h) (k2 : (z = 0) → Q (some (.int (Int32.ofInt 0))) h) (k3 : (¬ z = 0) → WP 38 0 [some (.ref 1), some (.ref b), some (.ref q), none] [] h (fun v1 h1 => WP 37 71 [some (.ref 1), some (.ref b), some (.int (nI v)), some (.ref q)] (v1.toList ++ []) h1 Q)) : WP 37 62 [some (.ref 1), some (.ref b), some (.int (nI v)), some (.ref q)] [.int z] h Q :=
  B37_62 (fun c1 => B37_74 oi0 (k2 c1)) (fun c1 => B37_65 (S.T 1) (k3 c1))
theorem V37d {h : pm_H} {Q : Option Value → pm_H → Prop} {b : Nat} {q : Nat} {z : Int32} {v : Nat} (S : SK h) (t2 : (¬ z = 0) → zT h b = 2) (k3 : (¬ z = 0) → WP 14 0 [some (.ref b), some (.ref q)] [] h (fun v1 h1 => WP 37 81 [some (.ref 1), some (.ref b), some (.int (nI v)), some (.ref q)] (v1.toList ++ []) h1 Q)) (k4 : (z = 0) → Q (some (.int (Int32.ofInt 0))) h) : WP 37 71 [some (.ref 1), some (.ref b), some (.int (nI v)), some (.ref q)] [.int z] h Q :=
  B37_71 (fun c1 => B37_76 (t2 c1) (k3 c1)) (fun c1 => B37_74 oi0 (k4 c1))
theorem atC.keep {h g : pm_H} (hd : sameD h g) {sa q : Nat} {S : List BkS} {c : BkC} (ds : dyn h sa) (k : atC h sa S q c) : atC g sa S q c := by
  obtain ⟨e1, e2, e3, e4, pa, e5, e6, e7, e8, e9⟩ := k
  obtain ⟨s1, s2, s3, s4⟩ := hd.1 sa ds
  obtain ⟨d1, d2, d3, d4⟩ := hd.1 q e1
  obtain ⟨f1, f2, f3, f4⟩ := hd.1 pa e6
  refine ⟨e1.up hd, by rw [d1]; exact e2, by rw [d3]; exact e3, by rw [d3]; exact e4, pa, by rw [d4]; exact e5, e6.up hd, by rw [f1]; exact e7, by rw [f2]; exact e8, fun k hk => ?_⟩
  obtain ⟨w, w1, w2, w3, ⟨b', w4, w5⟩, w6, w7, w8⟩ := e9 k hk
  obtain ⟨g1, g2, g3, g4⟩ := hd.1 w w2
  exact ⟨w, by rw [f4]; exact w1, w2.up hd, by rw [g1]; exact w3, ⟨b', by rw [g4]; exact w4, by rw [s4]; exact w5⟩, by rw [g3]; exact w6, by rw [g3]; exact w7, by rw [g3]; exact w8⟩
theorem atC.keepX {K : Nat} (hK : K = 104) {h g : pm_H} (hd : ∀ a, dyn h a → zT h a ≠ 2 → zT h a ≠ K → zT g a = zT h a ∧ zN g a = zN h a ∧ zI g a = zI h a ∧ zR g a = zR h a) (hn : zn h ≤ zn g) {sa q : Nat} {S : List BkS} {c : BkC} (ds : dyn h sa) (ts : zT h sa = 103) (k : atC h sa S q c) : atC g sa S q c := by
  obtain ⟨e1, e2, e3, e4, pa, e5, e6, e7, e8, e9⟩ := k
  obtain ⟨s1, s2, s3, s4⟩ := hd sa ds (by omega) (by omega)
  obtain ⟨d1, d2, d3, d4⟩ := hd q e1 (by omega) (by omega)
  obtain ⟨f1, f2, f3, f4⟩ := hd pa e6 (by omega) (by omega)
  have up : ∀ a, dyn h a → dyn g a := fun a d => ⟨d.1, Nat.lt_of_lt_of_le d.2 hn⟩
  refine ⟨up _ e1, by rw [d1]; exact e2, by rw [d3]; exact e3, by rw [d3]; exact e4, pa, by rw [d4]; exact e5, up _ e6, by rw [f1]; exact e7, by rw [f2]; exact e8, fun k hk => ?_⟩
  obtain ⟨w, w1, w2, w3, ⟨b', w4, w5⟩, w6, w7, w8⟩ := e9 k hk
  obtain ⟨g1, g2, g3, g4⟩ := hd w w2 (by omega) (by omega)
  exact ⟨w, by rw [f4]; exact w1, up _ w2, by rw [g1]; exact w3, ⟨b', by rw [g4]; exact w4, by rw [s4]; exact w5⟩, by rw [g3]; exact w6, by rw [g3]; exact w7, by rw [g3]; exact w8⟩
theorem atB.pushC {h : pm_H} {b q : Nat} {S : List BkS} {C : List BkC} {c : BkC} (hb : atB h b (S, C)) (r0 : zR h b 0 = some (b + 1)) (r2 : zR h b 2 = some (b + 2)) (hq : atC h (b + 1) S q c) : atB (yI (yR h (b + 2) C.length (some q)) b 3 (nI (C.length + 1))) b (S, C ++ [c]) := by
  obtain ⟨k1, k2, k3, k4, sa, ca, k5, k6, k7, k8, k9, k10, k11, k12, k13, k14⟩ := hb
  have esa : sa = b + 1 := by rw [k5] at r0; injection r0
  have eca : ca = b + 2 := by rw [k9] at r2; injection r2
  subst esa
  subst eca
  have hd : ∀ a, dyn h a → zT h a ≠ 2 → zT h a ≠ 104 → zT (yI (yR h (b + 2) C.length (some q)) b 3 (nI (C.length + 1))) a = zT h a ∧ zN (yI (yR h (b + 2) C.length (some q)) b 3 (nI (C.length + 1))) a = zN h a ∧ zI (yI (yR h (b + 2) C.length (some q)) b 3 (nI (C.length + 1))) a = zI h a ∧ zR (yI (yR h (b + 2) C.length (some q)) b 3 (nI (C.length + 1))) a = zR h a := fun a _ h1 h2 => by
    have n1 : a ≠ b := fun e => h1 (by rw [e]; exact k2)
    have n2 : a ≠ b + 2 := fun e => h2 (by rw [e]; exact k11)
    rw [zT_yI, zT_yR, zN_yI, zN_yR, zI_yI, if_neg n1, zI_yR, zR_yI, zR_yR, if_neg n2]
    exact ⟨rfl, rfl, rfl, rfl⟩
  have up : ∀ a, dyn h a → dyn (yI (yR h (b + 2) C.length (some q)) b 3 (nI (C.length + 1))) a := fun a d => d
  have nb : b ≠ b + 2 := by omega
  have nb1 : b + 1 ≠ b + 2 := by omega
  refine ⟨up _ k1, k2, by rw [zI_yI, if_pos rfl, va_upA, if_neg (by decide)]; exact k3, by rw [zI_yI, if_pos rfl, va_upA, if_pos rfl]; simp, b + 1, b + 2, by rw [zR_yI, zR_yR, if_neg nb]; exact k5, up _ k6, k7, k8, by rw [zR_yI, zR_yR, if_neg nb]; exact k9, up _ k10, k11, k12, fun s hs => ?_, fun c' hc => ?_⟩
  · obtain ⟨p', q1, q2⟩ := k13 s hs
    exact ⟨p', by rw [zR_yI, zR_yR, if_neg nb1]; exact q1, q2.keepX (by decide) hd (Nat.le_refl _)⟩
  · have hs' : c' < C.length + 1 := by simpa using hc
    by_cases e : c' = C.length
    · subst e
      refine ⟨q, by rw [zR_yI, zR_yR, if_pos rfl, va_upA, if_pos rfl], ?_⟩
      have ex : (C ++ [c])[C.length] = c := by simp
      simp only [ex]
      exact hq.keepX rfl hd (Nat.le_refl _) k6 k7
    · have hl : c' < C.length := by omega
      obtain ⟨p', q1, q2⟩ := k14 c' hl
      refine ⟨p', by rw [zR_yI, zR_yR, if_pos rfl, va_upA, if_neg e]; exact q1, ?_⟩
      have ex : (C ++ [c])[c'] = C[c'] := by rw [List.getElem_append_left hl]
      simp only [ex]
      exact q2.keepX rfl hd (Nat.le_refl _) k6 k7
theorem Lw.D {q : Nat} {h g : pm_H} (p : Lw q h g) (hq : zn h ≤ q) (q76 : 76 ≤ q) : sameD h g := by
  refine ⟨fun a ha => ?_, by rw [(p.2.1 0 (by omega)).2.2], p.2.2.2⟩
  have al := ha.2
  obtain ⟨t1, t2, t3⟩ := p.2.1 a (by omega)
  refine ⟨t1, t2, p.1 a (by omega) (fun m => ?_), t3⟩
  simp only [List.mem_cons, List.not_mem_nil, or_false] at m
  rcases ha.1 with e | e | e | e <;> omega
theorem Lw.mono {b q : Nat} {h g : pm_H} (p : Lw q h g) (hq : b ≤ q) : Lw b h g := ⟨fun a h1 => p.1 a (by omega), fun a h1 => p.2.1 a (by omega), p.2.2⟩
section CCL
variable {h : pm_H} {Q : Option Value → pm_H → Prop} {ch : Nat → Nat} {n i b q nm : Nat} {S : List BkS} {C : List BkC} {ps : List BkP}
/-- one more part -/
theorem atC.pushP {w p : Nat} {x : BkP} (hq : atC h (b + 1) S q (nm, ps)) (rq : zR h q 1 = some (q + 1)) (bq : b + 1 < q) (hw : w = zn h) (q76 : 76 ≤ q) (hp : zR h (b + 1) x.1 = some p) : atC (yI (yR (yI (yI (yI (yR (yN h 5 0 4) w 0 (some p)) w 1 (nI x.1)) w 2 (bI x.2.2)) w 3 (nI x.2.1)) (q + 1) ps.length (some w)) q 2 (nI (ps.length + 1))) (b + 1) S q (nm, ps ++ [x]) := by
  obtain ⟨e1, e2, e3, e4, pa, e5, e6, e7, e8, e9⟩ := hq
  have epa : pa = q + 1 := by rw [e5] at rq; injection rq
  subst epa
  have q1z := e6.2
  have nw : ∀ a, dyn h a → a ≠ w := fun a d => by have := d.2; omega
  have n1 : q ≠ w := nw _ e1
  have n2 : q + 1 ≠ w := nw _ e6
  have zng : zn (yI (yR (yI (yI (yI (yR (yN h 5 0 4) w 0 (some p)) w 1 (nI x.1)) w 2 (bI x.2.2)) w 3 (nI x.2.1)) (q + 1) ps.length (some w)) q 2 (nI (ps.length + 1))) = zn h + 1 := by
    simp only [zn_yI, zn_yR, zn_yN]
  have up : ∀ a, dyn h a → dyn (yI (yR (yI (yI (yI (yR (yN h 5 0 4) w 0 (some p)) w 1 (nI x.1)) w 2 (bI x.2.2)) w 3 (nI x.2.1)) (q + 1) ps.length (some w)) q 2 (nI (ps.length + 1))) a := fun a d => ⟨d.1, by rw [zng]; have := d.2; omega⟩
  have tt : ∀ a, a ≠ w → zT (yI (yR (yI (yI (yI (yR (yN h 5 0 4) w 0 (some p)) w 1 (nI x.1)) w 2 (bI x.2.2)) w 3 (nI x.2.1)) (q + 1) ps.length (some w)) q 2 (nI (ps.length + 1))) a = zT h a := fun a ha => by
    simp only [zT_yI, zT_yR, zT_yN]; rw [if_neg (by omega)]
  have tn : ∀ a, a ≠ w → zN (yI (yR (yI (yI (yI (yR (yN h 5 0 4) w 0 (some p)) w 1 (nI x.1)) w 2 (bI x.2.2)) w 3 (nI x.2.1)) (q + 1) ps.length (some w)) q 2 (nI (ps.length + 1))) a = zN h a := fun a ha => by
    simp only [zN_yI, zN_yR, zN_yN]; rw [if_neg (by omega)]
  have ti : ∀ a, a ≠ w → a ≠ q → zI (yI (yR (yI (yI (yI (yR (yN h 5 0 4) w 0 (some p)) w 1 (nI x.1)) w 2 (bI x.2.2)) w 3 (nI x.2.1)) (q + 1) ps.length (some w)) q 2 (nI (ps.length + 1))) a = zI h a := fun a ha hb => by
    rw [zI_yI, if_neg hb, zI_yR, zI_yI, if_neg ha, zI_yI, if_neg ha, zI_yI, if_neg ha, zI_yR, zI_yN, if_neg (by omega)]
  have tr : ∀ a, a ≠ w → a ≠ q + 1 → zR (yI (yR (yI (yI (yI (yR (yN h 5 0 4) w 0 (some p)) w 1 (nI x.1)) w 2 (bI x.2.2)) w 3 (nI x.2.1)) (q + 1) ps.length (some w)) q 2 (nI (ps.length + 1))) a = zR h a := fun a ha hb => by
    rw [zR_yI, zR_yR, if_neg hb, zR_yI, zR_yI, zR_yI, zR_yR, if_neg ha, zR_yN, if_neg (by omega)]
  have iq : ∀ k, zI (yI (yR (yI (yI (yI (yR (yN h 5 0 4) w 0 (some p)) w 1 (nI x.1)) w 2 (bI x.2.2)) w 3 (nI x.2.1)) (q + 1) ps.length (some w)) q 2 (nI (ps.length + 1))) q k = if k = 2 then nI (ps.length + 1) else zI h q k := fun k => by
    rw [zI_yI, if_pos rfl, va_upA, zI_yR, zI_yI, if_neg n1, zI_yI, if_neg n1, zI_yI, if_neg n1, zI_yR, zI_yN, if_neg (show ¬ q = zn h by omega)]
  have rq1 : ∀ k, zR (yI (yR (yI (yI (yI (yR (yN h 5 0 4) w 0 (some p)) w 1 (nI x.1)) w 2 (bI x.2.2)) w 3 (nI x.2.1)) (q + 1) ps.length (some w)) q 2 (nI (ps.length + 1))) (q + 1) k = if k = ps.length then some w else zR h (q + 1) k := fun k => by
    rw [zR_yI, zR_yR, if_pos rfl, va_upA, zR_yI, zR_yI, zR_yI, zR_yR, if_neg n2, zR_yN, if_neg (show ¬ q + 1 = zn h by omega)]
  have wT : zT (yI (yR (yI (yI (yI (yR (yN h 5 0 4) w 0 (some p)) w 1 (nI x.1)) w 2 (bI x.2.2)) w 3 (nI x.2.1)) (q + 1) ps.length (some w)) q 2 (nI (ps.length + 1))) w = 5 := by
    simp only [zT_yI, zT_yR, zT_yN]; rw [if_pos hw]
  have wR : zR (yI (yR (yI (yI (yI (yR (yN h 5 0 4) w 0 (some p)) w 1 (nI x.1)) w 2 (bI x.2.2)) w 3 (nI x.2.1)) (q + 1) ps.length (some w)) q 2 (nI (ps.length + 1))) w 0 = some p := by
    rw [zR_yI, zR_yR, if_neg (Ne.symm n2), zR_yI, zR_yI, zR_yI, zR_yR, if_pos rfl, va_upA, if_pos rfl]
  have wI : ∀ k, zI (yI (yR (yI (yI (yI (yR (yN h 5 0 4) w 0 (some p)) w 1 (nI x.1)) w 2 (bI x.2.2)) w 3 (nI x.2.1)) (q + 1) ps.length (some w)) q 2 (nI (ps.length + 1))) w k = if k = 3 then nI x.2.1 else if k = 2 then bI x.2.2 else if k = 1 then nI x.1 else 0 := fun k => by
    rw [zI_yI, if_neg (Ne.symm n1), zI_yR, zI_yI, if_pos rfl, va_upA, zI_yI, if_pos rfl, va_upA, zI_yI, if_pos rfl, va_upA, zI_yR, zI_yN, if_pos hw]
  have sb : b + 1 ≠ w := by omega
  have sr := tr (b + 1) sb (by omega)
  obtain ⟨g, eg⟩ : ∃ g, g = yI (yR (yI (yI (yI (yR (yN h 5 0 4) w 0 (some p)) w 1 (nI x.1)) w 2 (bI x.2.2)) w 3 (nI x.2.1)) (q + 1) ps.length (some w)) q 2 (nI (ps.length + 1)) := ⟨_, rfl⟩
  rw [← eg] at zng up tt tn ti tr iq rq1 wT wR wI sr ⊢
  refine ⟨up _ e1, by rw [tt _ n1]; exact e2, by rw [iq, if_neg (by decide)]; exact e3, by rw [iq, if_pos rfl]; simp, q + 1, by rw [tr _ n1 (by omega)]; exact e5, up _ e6, by rw [tt _ n2]; exact e7, by rw [tn _ n2]; exact e8, fun k hk => ?_⟩
  have hk' : k < ps.length + 1 := by simpa using hk
  by_cases e : k = ps.length
  · subst e
    refine ⟨w, by rw [rq1, if_pos rfl], ?_⟩
    have ex : (ps ++ [x])[ps.length] = x := by simp
    simp only [ex]
    exact ⟨⟨Or.inr (Or.inr (Or.inr (by omega))), by rw [zng]; omega⟩, wT, ⟨p, wR, by rw [sr]; exact hp⟩, by rw [wI]; rfl, by rw [wI]; rfl, by rw [wI]; rfl⟩
  · have hl : k < ps.length := by omega
    obtain ⟨w', w1, w2, w3, ⟨b', w4, w5⟩, w6, w7, w8⟩ := e9 k hl
    have n3 := nw _ w2
    have n4 : w' ≠ q := fun e => by rw [e, e2] at w3; cases w3
    have n5 : w' ≠ q + 1 := fun e => by rw [e, e7] at w3; cases w3
    have ex : (ps ++ [x])[k] = ps[k] := by rw [List.getElem_append_left hl]
    refine ⟨w', by rw [rq1, if_neg e]; exact w1, ?_⟩
    simp only [ex]
    exact ⟨up _ w2, by rw [tt _ n3]; exact w3, ⟨b', by rw [tr _ n3 n5]; exact w4, by rw [sr]; exact w5⟩, by rw [ti _ n3 n4]; exact w6, by rw [ti _ n3 n4]; exact w7, by rw [ti _ n3 n4]; exact w8⟩
end CCL

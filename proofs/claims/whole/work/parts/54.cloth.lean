theorem V92 {h : pm_H} {Q : Option Value → pm_H → Prop} {x1 : Int32} {x2 : Int32} {x3 : Int32} {d4 : Option Value} {d5 : Option Value} {b1 : Nat} (S : SK h) (e2 : zR h 0 2 = some b1) (t3 : zT h b1 = 2) (k4 : WP 16 0 [some (.ref b1), some (.int x1)] [] h (fun v1 h1 => WP 92 8 [some (.ref 0), some (.int x1), some (.int x2), some (.int x3), d4, d5] (v1.toList ++ []) h1 Q)) : WP 92 0 [some (.ref 0), some (.int x1), some (.int x2), some (.int x3), d4, d5] [] h Q :=
  B92_0 (S.T 0) e2 t3 k4
theorem V92n {h : pm_H} {Q : Option Value → pm_H → Prop} {x1 : Int32} {x2 : Int32} {x3 : Int32} {d4 : Option Value} {d5 : Option Value} (S : SK h) (k1 : Q (some (.int (Int32.ofInt (-1)))) (yI h 0 0 (Int32.ofInt 1))) : WP 92 8 [some (.ref 0), some (.int x1), some (.int x2), some (.int x3), d4, d5] [.null] h Q :=
  B92_8n (B92_15 (S.T 0) (B107_0 (S.T 0) (B92_20 k1)))
theorem V92r {h : pm_H} {Q : Option Value → pm_H → Prop} {x1 : Int32} {x2 : Int32} {x3 : Int32} {q : Nat} {d4 : Option Value} {d5 : Option Value} (S : SK h) (t2 : (¬ x2 = (Int32.ofInt (-1))) → zT h q = 3) (k3 : (¬ x2 = (Int32.ofInt (-1))) → WP 21 0 [some (.ref q), some (.int x2)] [] h (fun v1 h1 => WP 92 40 [some (.ref 0), some (.int x1), some (.int x2), some (.int x3), some (.ref q), d5] (v1.toList ++ []) h1 Q)) (k4 : (x2 = (Int32.ofInt (-1))) → WP 115 0 [some (.ref 0), some (.ref q), some (.int x3)] [] h (fun v1 h1 => WP 92 33 [some (.ref 0), some (.int x1), some (.int x2), some (.int x3), some (.ref q), d5] (v1.toList ++ []) h1 Q)) : WP 92 8 [some (.ref 0), some (.int x1), some (.int x2), some (.int x3), d4, d5] [.ref q] h Q :=
  B92_8 (B92_21 (fun c1 => B92_34 (t2 c1) (k3 c1)) (fun c1 => B92_26 (S.T 0) (k4 c1)))
theorem V92pn {h : pm_H} {Q : Option Value → pm_H → Prop} {x1 : Int32} {x2 : Int32} {x3 : Int32} {q : Nat} {d5 : Option Value} (S : SK h) (k1 : Q (some (.int (Int32.ofInt (-1)))) (yI h 0 0 (Int32.ofInt 1))) : WP 92 40 [some (.ref 0), some (.int x1), some (.int x2), some (.int x3), some (.ref q), d5] [.null] h Q :=
  B92_40n (B92_47 (S.T 0) (B107_0 (S.T 0) (B92_52 k1)))
theorem V92p {h : pm_H} {Q : Option Value → pm_H → Prop} {x1 : Int32} {x2 : Int32} {x3 : Int32} {q : Nat} {w : Nat} {d5 : Option Value} (S : SK h) (k1 : WP 116 0 [some (.ref 0), some (.ref w), some (.int x3)] [] h (fun v1 h1 => WP 92 60 [some (.ref 0), some (.int x1), some (.int x2), some (.int x3), some (.ref q), some (.ref w)] (v1.toList ++ []) h1 Q)) : WP 92 40 [some (.ref 0), some (.int x1), some (.int x2), some (.int x3), some (.ref q), d5] [.ref w] h Q :=
  B92_40 (B92_53 (S.T 0) k1)
theorem V92s {h : pm_H} {Q : Option Value → pm_H → Prop} {x1 : Int32} {x2 : Int32} {x3 : Int32} {q : Nat} {w : Nat} {x5 : Int32} (S : SK h) (k1 : Q (some (.int x5)) h) : WP 92 60 [some (.ref 0), some (.int x1), some (.int x2), some (.int x3), some (.ref q), some (.ref w)] [.int x5] h Q :=
  B92_60 k1
theorem V92t {h : pm_H} {Q : Option Value → pm_H → Prop} {x1 : Int32} {x2 : Int32} {x3 : Int32} {q : Nat} {x5 : Int32} {d5 : Option Value} (S : SK h) (k1 : Q (some (.int x5)) h) : WP 92 33 [some (.ref 0), some (.int x1), some (.int x2), some (.int x3), some (.ref q), d5] [.int x5] h Q :=
  B92_33 k1
theorem V115 {h : pm_H} {Q : Option Value → pm_H → Prop} {q : Nat} {x2 : Int32} (S : SK h) (t2 : (x2 = (Int32.ofInt 0)) → zT h q = 3) (k3 : (x2 = (Int32.ofInt 0)) → Q (some (.int (zI h q 0))) (yI h 0 0 (Int32.ofInt 0))) (t4 : (¬ x2 = (Int32.ofInt 0)) → (x2 = (Int32.ofInt 1)) → zT h q = 3) (k5 : (¬ x2 = (Int32.ofInt 0)) → (x2 = (Int32.ofInt 1)) → Q (some (.int (zI h q 2))) (yI h 0 0 (Int32.ofInt 0))) (t6 : (¬ x2 = (Int32.ofInt 0)) → (¬ x2 = (Int32.ofInt 1)) → (x2 = (Int32.ofInt 2)) → zT h q = 3) (k7 : (¬ x2 = (Int32.ofInt 0)) → (¬ x2 = (Int32.ofInt 1)) → (x2 = (Int32.ofInt 2)) → WP 22 0 [some (.ref q), none, none] [] h (fun v1 h1 => WP 115 55 [some (.ref 0), some (.ref q), some (.int x2)] (v1.toList ++ [.ref 0]) h1 Q)) (k8 : (¬ x2 = (Int32.ofInt 0)) → (¬ x2 = (Int32.ofInt 1)) → (¬ x2 = (Int32.ofInt 2)) → (x2 = (Int32.ofInt 3)) → WP 53 0 [some (.ref 11), some (.ref q), none, none] [] h (fun v1 h1 => WP 115 68 [some (.ref 0), some (.ref q), some (.int x2)] (v1.toList ++ [.ref 0]) h1 Q)) (k9 : (¬ x2 = (Int32.ofInt 0)) → (¬ x2 = (Int32.ofInt 1)) → (¬ x2 = (Int32.ofInt 2)) → (¬ x2 = (Int32.ofInt 3)) → Q (some (.int (Int32.ofInt (-1)))) (yI h 0 0 (Int32.ofInt 2))) : WP 115 0 [some (.ref 0), some (.ref q), some (.int x2)] [] h Q :=
  B115_0 ((if c1_0 : x2 = (Int32.ofInt 0) then WP.pcs (by rw [c1_0]; rfl) (B115_32 (t2 c1_0) (S.T 0) (B106_0 (S.T 0) (B115_40 (k3 c1_0)))) else (if c1_1 : x2 = (Int32.ofInt 1) then WP.pcs (by rw [c1_1]; rfl) (B115_41 (t4 c1_0 c1_1) (S.T 0) (B106_0 (S.T 0) (B115_49 (k5 c1_0 c1_1)))) else (if c1_2 : x2 = (Int32.ofInt 2) then WP.pcs (by rw [c1_2]; rfl) (B115_50 (t6 c1_0 c1_1 c1_2) (k7 c1_0 c1_1 c1_2)) else (if c1_3 : x2 = (Int32.ofInt 3) then WP.pcs (by rw [c1_3]; rfl) (B115_59 (S.T 0) (S.R 0 3) (S.T 11) (k8 c1_0 c1_1 c1_2 c1_3)) else (WP.pcs (if_pos (by have q0 := sw_ne c1_0; have q1 := sw_ne c1_1; have q2 := sw_ne c1_2; have q3 := sw_ne c1_3; omega)) (B115_72 (S.T 0) (B107_0 (S.T 0) (B115_77 (k9 c1_0 c1_1 c1_2 c1_3))))))))))
theorem V115g {h : pm_H} {Q : Option Value → pm_H → Prop} {q : Nat} {x2 : Int32} {x3 : Int32} (S : SK h) (k1 : Q (some (.int x3)) (yI h 0 0 (Int32.ofInt 0))) : WP 115 55 [some (.ref 0), some (.ref q), some (.int x2)] [.int x3, .ref 0] h Q :=
  B115_55 (S.T 0) (B106_0 (S.T 0) (B115_58 k1))
theorem V115v {h : pm_H} {Q : Option Value → pm_H → Prop} {q : Nat} {x2 : Int32} {x3 : Int32} (S : SK h) (k1 : Q (some (.int x3)) (yI h 0 0 (Int32.ofInt 0))) : WP 115 68 [some (.ref 0), some (.ref q), some (.int x2)] [.int x3, .ref 0] h Q :=
  B115_68 (S.T 0) (B106_0 (S.T 0) (B115_71 k1))
theorem V116 {h : pm_H} {Q : Option Value → pm_H → Prop} {w : Nat} {x2 : Int32} {b12 : Nat} {b15 : Nat} (S : SK h) (t2 : (x2 = (Int32.ofInt 0)) → zT h w = 5) (k3 : (x2 = (Int32.ofInt 0)) → Q (some (.int (zI h w 1))) (yI h 0 0 (Int32.ofInt 0))) (t4 : (¬ x2 = (Int32.ofInt 0)) → (x2 = (Int32.ofInt 1)) → zT h w = 5) (k5 : (¬ x2 = (Int32.ofInt 0)) → (x2 = (Int32.ofInt 1)) → Q (some (.int (zI h w 3))) (yI h 0 0 (Int32.ofInt 0))) (t6 : (¬ x2 = (Int32.ofInt 0)) → (¬ x2 = (Int32.ofInt 1)) → (x2 = (Int32.ofInt 2)) → zT h w = 5) (k8 : (¬ x2 = (Int32.ofInt 0)) → (¬ x2 = (Int32.ofInt 1)) → (x2 = (Int32.ofInt 2)) → ((zI h w 2) = 0) → Q (some (.int (Int32.ofInt 0))) (yI h 0 0 (Int32.ofInt 0))) (k9 : (¬ x2 = (Int32.ofInt 0)) → (¬ x2 = (Int32.ofInt 1)) → (x2 = (Int32.ofInt 2)) → (¬ (zI h w 2) = 0) → Q (some (.int (Int32.ofInt 1))) (yI h 0 0 (Int32.ofInt 0))) (t10 : (¬ x2 = (Int32.ofInt 0)) → (¬ x2 = (Int32.ofInt 1)) → (¬ x2 = (Int32.ofInt 2)) → (x2 = (Int32.ofInt 3)) → zT h w = 5) (t11 : (¬ x2 = (Int32.ofInt 0)) → (¬ x2 = (Int32.ofInt 1)) → (¬ x2 = (Int32.ofInt 2)) → (x2 = (Int32.ofInt 3)) → zT h w = 5) (e13 : (¬ x2 = (Int32.ofInt 0)) → (¬ x2 = (Int32.ofInt 1)) → (¬ x2 = (Int32.ofInt 2)) → (x2 = (Int32.ofInt 3)) → zR h w 0 = some b12) (t14 : (¬ x2 = (Int32.ofInt 0)) → (¬ x2 = (Int32.ofInt 1)) → (¬ x2 = (Int32.ofInt 2)) → (x2 = (Int32.ofInt 3)) → zT h b12 = 9) (e16 : (¬ x2 = (Int32.ofInt 0)) → (¬ x2 = (Int32.ofInt 1)) → (¬ x2 = (Int32.ofInt 2)) → (x2 = (Int32.ofInt 3)) → zR h b12 1 = some b15) (g17 : (¬ x2 = (Int32.ofInt 0)) → (¬ x2 = (Int32.ofInt 1)) → (¬ x2 = (Int32.ofInt 2)) → (x2 = (Int32.ofInt 3)) → 100 ≤ zT h b15 ∧ zT h b15 ≤ 105) (k18 : (¬ x2 = (Int32.ofInt 0)) → (¬ x2 = (Int32.ofInt 1)) → (¬ x2 = (Int32.ofInt 2)) → (x2 = (Int32.ofInt 3)) → Q (some (.int ((zI h w 3) + (Int32.ofInt (zN h b15))))) (yI h 0 0 (Int32.ofInt 0))) (k19 : (¬ x2 = (Int32.ofInt 0)) → (¬ x2 = (Int32.ofInt 1)) → (¬ x2 = (Int32.ofInt 2)) → (¬ x2 = (Int32.ofInt 3)) → Q (some (.int (Int32.ofInt (-1)))) (yI h 0 0 (Int32.ofInt 2))) : WP 116 0 [some (.ref 0), some (.ref w), some (.int x2)] [] h Q :=
  B116_0 ((if c1_0 : x2 = (Int32.ofInt 0) then WP.pcs (by rw [c1_0]; rfl) (B116_32 (t2 c1_0) (S.T 0) (B106_0 (S.T 0) (B116_40 (k3 c1_0)))) else (if c1_1 : x2 = (Int32.ofInt 1) then WP.pcs (by rw [c1_1]; rfl) (B116_41 (t4 c1_0 c1_1) (S.T 0) (B106_0 (S.T 0) (B116_49 (k5 c1_0 c1_1)))) else (if c1_2 : x2 = (Int32.ofInt 2) then WP.pcs (by rw [c1_2]; rfl) (B116_50 (t6 c1_0 c1_1 c1_2) (fun c7 => B116_62 (B116_63 (S.T 0) (B106_0 (S.T 0) (B116_66 (k8 c1_0 c1_1 c1_2 c7))))) (fun c7 => B116_58 (B116_63 (S.T 0) (B106_0 (S.T 0) (B116_66 (k9 c1_0 c1_1 c1_2 c7)))))) else (if c1_3 : x2 = (Int32.ofInt 3) then WP.pcs (by rw [c1_3]; rfl) (B116_67 (t10 c1_0 c1_1 c1_2 c1_3) (B29_0 (t11 c1_0 c1_1 c1_2 c1_3) (e13 c1_0 c1_1 c1_2 c1_3) (t14 c1_0 c1_1 c1_2 c1_3) (e16 c1_0 c1_1 c1_2 c1_3) (g17 c1_0 c1_1 c1_2 c1_3) (B116_72 (S.T 0) (B106_0 (S.T 0) (B116_75 (k18 c1_0 c1_1 c1_2 c1_3)))))) else (WP.pcs (if_pos (by have q0 := sw_ne c1_0; have q1 := sw_ne c1_1; have q2 := sw_ne c1_2; have q3 := sw_ne c1_3; omega)) (B116_76 (S.T 0) (B107_0 (S.T 0) (B116_81 (k19 c1_0 c1_1 c1_2 c1_3))))))))))
theorem V22 {h : pm_H} {Q : Option Value → pm_H → Prop} {q : Nat} {d1 : Option Value} {d2 : Option Value} (S : SK h) (k1 : WP 22 4 [some (.ref q), some (.int (Int32.ofInt 0)), some (.int (Int32.ofInt 0))] [] h Q) : WP 22 0 [some (.ref q), d1, d2] [] h Q :=
  B22_0 (k1)
theorem V22L {h : pm_H} {Q : Option Value → pm_H → Prop} {q : Nat} {gr : Nat} {k : Nat} {b5 : Nat} {b8 : Nat} {b12 : Nat} {b15 : Nat} (S : SK h) (t1 : zT h q = 3) (k3 : ((zI h q 2) ≤ (nI k)) → Q (some (.int (nI gr))) h) (t4 : (¬ (zI h q 2) ≤ (nI k)) → zT h q = 3) (e6 : (¬ (zI h q 2) ≤ (nI k)) → zR h q 1 = some b5) (g7 : (¬ (zI h q 2) ≤ (nI k)) → (zT h b5 = 103 ∨ zT h b5 = 104 ∨ zT h b5 = 105) ∧ vp_in (nI k) (zN h b5)) (e9 : (¬ (zI h q 2) ≤ (nI k)) → zR h b5 ((nI k)).toNatClampNeg = some b8) (t10 : (¬ (zI h q 2) ≤ (nI k)) → zT h b8 = 5) (t11 : (¬ (zI h q 2) ≤ (nI k)) → zT h b8 = 5) (e13 : (¬ (zI h q 2) ≤ (nI k)) → zR h b8 0 = some b12) (t14 : (¬ (zI h q 2) ≤ (nI k)) → zT h b12 = 9) (e16 : (¬ (zI h q 2) ≤ (nI k)) → zR h b12 1 = some b15) (g17 : (¬ (zI h q 2) ≤ (nI k)) → 100 ≤ zT h b15 ∧ zT h b15 ≤ 105) (k18 : (¬ (zI h q 2) ≤ (nI k)) → WP 22 4 [some (.ref q), some (.int (if (nI gr) < ((zI h b8 3) + (Int32.ofInt (zN h b15))) then ((zI h b8 3) + (Int32.ofInt (zN h b15))) else (nI gr))), some (.int ((nI k) + (Int32.ofInt 1)))] [] h Q) : WP 22 4 [some (.ref q), some (.int (nI gr)), some (.int (nI k))] [] h Q :=
  B22_4 t1 (fun c2 => B22_32 (k3 c2)) (fun c2 => B22_12 (t4 c2) (e6 c2) (g7 c2) (e9 c2) (t10 c2) (B29_0 (t11 c2) (e13 c2) (t14 c2) (e16 c2) (g17 c2) (B22_22 (k18 c2))))
theorem V53 {h : pm_H} {Q : Option Value → pm_H → Prop} {q : Nat} {d2 : Option Value} {d3 : Option Value} (S : SK h) (k1 : WP 53 4 [some (.ref 11), some (.ref q), some (.int (Int32.ofInt 0)), some (.int (Int32.ofInt 0))] [] h Q) : WP 53 0 [some (.ref 11), some (.ref q), d2, d3] [] h Q :=
  B53_0 (k1)
theorem V53L {h : pm_H} {Q : Option Value → pm_H → Prop} {q : Nat} {sm : Int32} {k : Nat} {b5 : Nat} {b8 : Nat} {b11 : Nat} (S : SK h) (t1 : zT h q = 3) (k3 : ((zI h q 2) ≤ ((nI k) + (Int32.ofInt 1))) → Q (some (.int sm)) h) (t4 : (¬ (zI h q 2) ≤ ((nI k) + (Int32.ofInt 1))) → zT h q = 3) (e6 : (¬ (zI h q 2) ≤ ((nI k) + (Int32.ofInt 1))) → zR h q 1 = some b5) (g7 : (¬ (zI h q 2) ≤ ((nI k) + (Int32.ofInt 1))) → (zT h b5 = 103 ∨ zT h b5 = 104 ∨ zT h b5 = 105) ∧ vp_in (nI k) (zN h b5)) (e9 : (¬ (zI h q 2) ≤ ((nI k) + (Int32.ofInt 1))) → zR h b5 ((nI k)).toNatClampNeg = some b8) (g10 : (¬ (zI h q 2) ≤ ((nI k) + (Int32.ofInt 1))) → (zT h b5 = 103 ∨ zT h b5 = 104 ∨ zT h b5 = 105) ∧ vp_in ((nI k) + (Int32.ofInt 1)) (zN h b5)) (e12 : (¬ (zI h q 2) ≤ ((nI k) + (Int32.ofInt 1))) → zR h b5 (((nI k) + (Int32.ofInt 1))).toNatClampNeg = some b11) (k13 : (¬ (zI h q 2) ≤ ((nI k) + (Int32.ofInt 1))) → WP 51 0 [some (.ref 11), some (.ref b8), some (.ref b11)] [] h (fun v1 h1 => WP 53 32 [some (.ref 11), some (.ref q), some (.int sm), some (.int (nI k))] (v1.toList ++ []) h1 Q)) : WP 53 4 [some (.ref 11), some (.ref q), some (.int sm), some (.int (nI k))] [] h Q :=
  B53_4 t1 (fun c2 => B53_45 (k3 c2)) (fun c2 => B53_14 (t4 c2) (e6 c2) (g7 c2) (e9 c2) (g10 c2) (e12 c2) (S.T 11) (k13 c2))
theorem V53r {h : pm_H} {Q : Option Value → pm_H → Prop} {q : Nat} {sm : Int32} {k : Nat} (S : SK h) (k1 : WP 53 4 [some (.ref 11), some (.ref q), some (.int (sm + (((Int32.ofInt 3) * (zI h 11 1)) - (zI h 11 0)))), some (.int ((nI k) + (Int32.ofInt 1)))] [] h Q) : WP 53 32 [some (.ref 11), some (.ref q), some (.int sm), some (.int (nI k))] [] h Q :=
  B53_32 (S.T 11) (B52_0 (S.T 11) (B53_37 (k1)))
theorem V158 {h : pm_H} {Q : Option Value → pm_H → Prop} {x1 : Int32} {x2 : Int32} {x3 : Int32} {d4 : Option Value} {d5 : Option Value} {d6 : Option Value} (S : SK h) (k3 : (x1 < 0) → Q (some (.int (Int32.ofInt (-1)))) (yI (yI (yI h 35 1 (Int32.ofInt 0)) 35 0 (Int32.ofInt 0)) 35 0 (Int32.ofInt 1))) (k6 : (¬ x1 < 0) → ((zI h 35 16) ≤ x1) → Q (some (.int (Int32.ofInt (-1)))) (yI (yI (yI h 35 1 (Int32.ofInt 0)) 35 0 (Int32.ofInt 0)) 35 0 (Int32.ofInt 1))) (k9 : (¬ x1 < 0) → (¬ (zI h 35 16) ≤ x1) → (x2 < (Int32.ofInt (-1))) → Q (some (.int (Int32.ofInt (-1)))) (yI (yI (yI h 35 1 (Int32.ofInt 0)) 35 0 (Int32.ofInt 0)) 35 0 (Int32.ofInt 1))) (g10 : (¬ x1 < 0) → (¬ (zI h 35 16) ≤ x1) → (¬ x2 < (Int32.ofInt (-1))) → vp_in x1 6) (k13 : (¬ x1 < 0) → (¬ (zI h 35 16) ≤ x1) → (¬ x2 < (Int32.ofInt (-1))) → (x2 < (zI h 40 (x1).toNatClampNeg)) → (x3 < 0) → Q (some (.int (Int32.ofInt (-1)))) (yI (yI (yI h 35 1 (Int32.ofInt 0)) 35 0 (Int32.ofInt 0)) 35 0 (Int32.ofInt 2))) (k16 : (¬ x1 < 0) → (¬ (zI h 35 16) ≤ x1) → (¬ x2 < (Int32.ofInt (-1))) → (x2 < (zI h 40 (x1).toNatClampNeg)) → (¬ x3 < 0) → (x3 ≤ (Int32.ofInt 3)) → (x2 < 0) → WP 158 137 [some (.ref 35), some (.int x1), some (.int x2), some (.int x3), some (.int (Int32.ofInt 0)), some (.int (Int32.ofInt 0)), some (.int ((Int32.ofInt 12) * x1))] [] (yI (yI h 35 1 (Int32.ofInt 0)) 35 0 (Int32.ofInt 0)) Q) (g20 : (¬ x1 < 0) → (¬ (zI h 35 16) ≤ x1) → (¬ x2 < (Int32.ofInt (-1))) → (x2 < (zI h 40 (x1).toNatClampNeg)) → (¬ x3 < 0) → (x3 ≤ (Int32.ofInt 3)) → (¬ x2 < 0) → (¬ x3 = 0) → (¬ x3 = (Int32.ofInt 1)) → (¬ x3 = (Int32.ofInt 2)) → vp_in (((Int32.ofInt 12) * x1) + x2) 72) (g21 : (¬ x1 < 0) → (¬ (zI h 35 16) ≤ x1) → (¬ x2 < (Int32.ofInt (-1))) → (x2 < (zI h 40 (x1).toNatClampNeg)) → (¬ x3 < 0) → (x3 ≤ (Int32.ofInt 3)) → (¬ x2 < 0) → (¬ x3 = 0) → (¬ x3 = (Int32.ofInt 1)) → (¬ x3 = (Int32.ofInt 2)) → vp_in (((Int32.ofInt 12) * x1) + x2) 72) (g22 : (¬ x1 < 0) → (¬ (zI h 35 16) ≤ x1) → (¬ x2 < (Int32.ofInt (-1))) → (x2 < (zI h 40 (x1).toNatClampNeg)) → (¬ x3 < 0) → (x3 ≤ (Int32.ofInt 3)) → (¬ x2 < 0) → (¬ x3 = 0) → (¬ x3 = (Int32.ofInt 1)) → (¬ x3 = (Int32.ofInt 2)) → vp_in (zI h 41 ((((Int32.ofInt 12) * x1) + x2)).toNatClampNeg) 12) (k23 : (¬ x1 < 0) → (¬ (zI h 35 16) ≤ x1) → (¬ x2 < (Int32.ofInt (-1))) → (x2 < (zI h 40 (x1).toNatClampNeg)) → (¬ x3 < 0) → (x3 ≤ (Int32.ofInt 3)) → (¬ x2 < 0) → (¬ x3 = 0) → (¬ x3 = (Int32.ofInt 1)) → (¬ x3 = (Int32.ofInt 2)) → Q (some (.int ((zI h 42 ((((Int32.ofInt 12) * x1) + x2)).toNatClampNeg) + (zI h 38 ((zI h 41 ((((Int32.ofInt 12) * x1) + x2)).toNatClampNeg)).toNatClampNeg)))) (yI (yI h 35 1 (Int32.ofInt 0)) 35 0 (Int32.ofInt 0))) (g24 : (¬ x1 < 0) → (¬ (zI h 35 16) ≤ x1) → (¬ x2 < (Int32.ofInt (-1))) → (x2 < (zI h 40 (x1).toNatClampNeg)) → (¬ x3 < 0) → (x3 ≤ (Int32.ofInt 3)) → (¬ x2 < 0) → (¬ x3 = 0) → (¬ x3 = (Int32.ofInt 1)) → (x3 = (Int32.ofInt 2)) → vp_in (((Int32.ofInt 12) * x1) + x2) 72) (k26 : (¬ x1 < 0) → (¬ (zI h 35 16) ≤ x1) → (¬ x2 < (Int32.ofInt (-1))) → (x2 < (zI h 40 (x1).toNatClampNeg)) → (¬ x3 < 0) → (x3 ≤ (Int32.ofInt 3)) → (¬ x2 < 0) → (¬ x3 = 0) → (¬ x3 = (Int32.ofInt 1)) → (x3 = (Int32.ofInt 2)) → ((zI h 43 ((((Int32.ofInt 12) * x1) + x2)).toNatClampNeg) = 0) → Q (some (.int (Int32.ofInt 0))) (yI (yI h 35 1 (Int32.ofInt 0)) 35 0 (Int32.ofInt 0))) (k27 : (¬ x1 < 0) → (¬ (zI h 35 16) ≤ x1) → (¬ x2 < (Int32.ofInt (-1))) → (x2 < (zI h 40 (x1).toNatClampNeg)) → (¬ x3 < 0) → (x3 ≤ (Int32.ofInt 3)) → (¬ x2 < 0) → (¬ x3 = 0) → (¬ x3 = (Int32.ofInt 1)) → (x3 = (Int32.ofInt 2)) → (¬ (zI h 43 ((((Int32.ofInt 12) * x1) + x2)).toNatClampNeg) = 0) → Q (some (.int (Int32.ofInt 1))) (yI (yI h 35 1 (Int32.ofInt 0)) 35 0 (Int32.ofInt 0))) (g28 : (¬ x1 < 0) → (¬ (zI h 35 16) ≤ x1) → (¬ x2 < (Int32.ofInt (-1))) → (x2 < (zI h 40 (x1).toNatClampNeg)) → (¬ x3 < 0) → (x3 ≤ (Int32.ofInt 3)) → (¬ x2 < 0) → (¬ x3 = 0) → (x3 = (Int32.ofInt 1)) → vp_in (((Int32.ofInt 12) * x1) + x2) 72) (k29 : (¬ x1 < 0) → (¬ (zI h 35 16) ≤ x1) → (¬ x2 < (Int32.ofInt (-1))) → (x2 < (zI h 40 (x1).toNatClampNeg)) → (¬ x3 < 0) → (x3 ≤ (Int32.ofInt 3)) → (¬ x2 < 0) → (¬ x3 = 0) → (x3 = (Int32.ofInt 1)) → Q (some (.int (zI h 42 ((((Int32.ofInt 12) * x1) + x2)).toNatClampNeg))) (yI (yI h 35 1 (Int32.ofInt 0)) 35 0 (Int32.ofInt 0))) (g30 : (¬ x1 < 0) → (¬ (zI h 35 16) ≤ x1) → (¬ x2 < (Int32.ofInt (-1))) → (x2 < (zI h 40 (x1).toNatClampNeg)) → (¬ x3 < 0) → (x3 ≤ (Int32.ofInt 3)) → (¬ x2 < 0) → (x3 = 0) → vp_in (((Int32.ofInt 12) * x1) + x2) 72) (k31 : (¬ x1 < 0) → (¬ (zI h 35 16) ≤ x1) → (¬ x2 < (Int32.ofInt (-1))) → (x2 < (zI h 40 (x1).toNatClampNeg)) → (¬ x3 < 0) → (x3 ≤ (Int32.ofInt 3)) → (¬ x2 < 0) → (x3 = 0) → Q (some (.int (zI h 41 ((((Int32.ofInt 12) * x1) + x2)).toNatClampNeg))) (yI (yI h 35 1 (Int32.ofInt 0)) 35 0 (Int32.ofInt 0))) (k32 : (¬ x1 < 0) → (¬ (zI h 35 16) ≤ x1) → (¬ x2 < (Int32.ofInt (-1))) → (x2 < (zI h 40 (x1).toNatClampNeg)) → (¬ x3 < 0) → (¬ x3 ≤ (Int32.ofInt 3)) → Q (some (.int (Int32.ofInt (-1)))) (yI (yI (yI h 35 1 (Int32.ofInt 0)) 35 0 (Int32.ofInt 0)) 35 0 (Int32.ofInt 2))) (k33 : (¬ x1 < 0) → (¬ (zI h 35 16) ≤ x1) → (¬ x2 < (Int32.ofInt (-1))) → (¬ x2 < (zI h 40 (x1).toNatClampNeg)) → Q (some (.int (Int32.ofInt (-1)))) (yI (yI (yI h 35 1 (Int32.ofInt 0)) 35 0 (Int32.ofInt 0)) 35 0 (Int32.ofInt 1))) : WP 158 0 [some (.ref 35), some (.int x1), some (.int x2), some (.int x3), d4, d5, d6] [] h Q :=
  B158_0 (S.T 35) (B152_0 (fun c1 => B152_16 (B152_17 oi0 (B158_15 (fun _ => B158_33 (S.T 35) (B123_0 (S.T 35) (B158_38 (k3 c1)))) (fun q => absurd (by decide) q)))) (fun c1 => B152_4 (S.T 35) (fun c4 => B152_16 (B152_17 oi0 (B158_15 (fun _ => B158_33 (S.T 35) (B123_0 (S.T 35) (B158_38 (k6 c1 c4)))) (fun q => absurd (by decide) q)))) (fun c4 => B152_12 (B152_17 oi1 (B158_15 (fun q => absurd q (by decide)) (fun _ => B158_18 (fun c8 => B158_33 (S.T 35) (B123_0 (S.T 35) (B158_38 (k9 c1 c4 c8)))) (fun c8 => B158_23 (S.T 35) (S.R 35 22) ⟨(S.T 40), (S.bd 40 (g10 c1 c4 c8))⟩ (fun c11 => B158_39 (fun c12 => B158_48 (S.T 35) (B123_0 (S.T 35) (B158_53 (k13 c1 c4 c8 c11 c12)))) (fun c12 => B158_43 (fun c14 => B158_54 (fun c15 => B158_125 (k16 c1 c4 c8 c11 c12 c14 c15)) (fun c15 => B158_58 (fun c17 => B158_80 (fun c18 => B158_95 (fun c19 => B158_118 (S.T 35) (B157_0 (S.T 35) (S.R 35 24) ⟨(S.T 42), (S.bd 42 (g20 c1 c4 c8 c11 c12 c14 c15 c17 c18 c19))⟩ (S.R 35 20) (S.R 35 23) ⟨(S.T 41), (S.bd 41 (g21 c1 c4 c8 c11 c12 c14 c15 c17 c18 c19))⟩ ⟨(S.T 38), (S.bd 38 (g22 c1 c4 c8 c11 c12 c14 c15 c17 c18 c19))⟩ (B158_124 (k23 c1 c4 c8 c11 c12 c14 c15 c17 c18 c19)))) (fun c19 => B158_100 (S.T 35) (S.R 35 25) ⟨(S.T 43), (S.bd 43 (g24 c1 c4 c8 c11 c12 c14 c15 c17 c18 c19))⟩ (fun c25 => B158_114 (B158_124 (k26 c1 c4 c8 c11 c12 c14 c15 c17 c18 c19 c25))) (fun c25 => B158_110 (B158_124 (k27 c1 c4 c8 c11 c12 c14 c15 c17 c18 c19 c25))))) (fun c18 => B158_85 (S.T 35) (S.R 35 24) ⟨(S.T 42), (S.bd 42 (g28 c1 c4 c8 c11 c12 c14 c15 c17 c18))⟩ (B158_124 (k29 c1 c4 c8 c11 c12 c14 c15 c17 c18)))) (fun c17 => B158_70 (S.T 35) (S.R 35 23) ⟨(S.T 41), (S.bd 41 (g30 c1 c4 c8 c11 c12 c14 c15 c17))⟩ (B158_124 (k31 c1 c4 c8 c11 c12 c14 c15 c17))))) (fun c14 => B158_48 (S.T 35) (B123_0 (S.T 35) (B158_53 (k32 c1 c4 c8 c11 c12 c14)))))) (fun c11 => B158_33 (S.T 35) (B123_0 (S.T 35) (B158_38 (k33 c1 c4 c8 c11)))))))))))
theorem V158L {h : pm_H} {Q : Option Value → pm_H → Prop} {x1 : Int32} {x2 : Int32} {x3 : Int32} {sm : Int32} {gr : Nat} {p : Nat} (S : SK h) (g1 : vp_in x1 6) (k6 : ((((Int32.ofInt 12) * x1) + (zI h 40 (x1).toNatClampNeg)) ≤ (nI p)) → (¬ x3 = 0) → (¬ x3 = (Int32.ofInt 1)) → (¬ x3 = (Int32.ofInt 2)) → Q (some (.int sm)) h) (k7 : ((((Int32.ofInt 12) * x1) + (zI h 40 (x1).toNatClampNeg)) ≤ (nI p)) → (¬ x3 = 0) → (¬ x3 = (Int32.ofInt 1)) → (x3 = (Int32.ofInt 2)) → Q (some (.int (nI gr))) h) (g8 : ((((Int32.ofInt 12) * x1) + (zI h 40 (x1).toNatClampNeg)) ≤ (nI p)) → (¬ x3 = 0) → (x3 = (Int32.ofInt 1)) → vp_in x1 6) (k9 : ((((Int32.ofInt 12) * x1) + (zI h 40 (x1).toNatClampNeg)) ≤ (nI p)) → (¬ x3 = 0) → (x3 = (Int32.ofInt 1)) → Q (some (.int (zI h 40 (x1).toNatClampNeg))) h) (g10 : ((((Int32.ofInt 12) * x1) + (zI h 40 (x1).toNatClampNeg)) ≤ (nI p)) → (x3 = 0) → vp_in x1 6) (k11 : ((((Int32.ofInt 12) * x1) + (zI h 40 (x1).toNatClampNeg)) ≤ (nI p)) → (x3 = 0) → Q (some (.int ((zI h 39 (x1).toNatClampNeg) - (Int32.ofInt 1)))) h) (g12 : (¬ (((Int32.ofInt 12) * x1) + (zI h 40 (x1).toNatClampNeg)) ≤ (nI p)) → vp_in (nI p) 72) (g13 : (¬ (((Int32.ofInt 12) * x1) + (zI h 40 (x1).toNatClampNeg)) ≤ (nI p)) → vp_in (nI p) 72) (g14 : (¬ (((Int32.ofInt 12) * x1) + (zI h 40 (x1).toNatClampNeg)) ≤ (nI p)) → vp_in (zI h 41 ((nI p)).toNatClampNeg) 12) (k16 : (¬ (((Int32.ofInt 12) * x1) + (zI h 40 (x1).toNatClampNeg)) ≤ (nI p)) → ((nI p) ≤ ((Int32.ofInt 12) * x1)) → WP 158 137 [some (.ref 35), some (.int x1), some (.int x2), some (.int x3), some (.int (if (nI gr) < ((zI h 42 ((nI p)).toNatClampNeg) + (zI h 38 ((zI h 41 ((nI p)).toNatClampNeg)).toNatClampNeg)) then ((zI h 42 ((nI p)).toNatClampNeg) + (zI h 38 ((zI h 41 ((nI p)).toNatClampNeg)).toNatClampNeg)) else (nI gr))), some (.int (sm + (Int32.ofInt 0))), some (.int ((nI p) + (Int32.ofInt 1)))] [] h Q) (k17 : (¬ (((Int32.ofInt 12) * x1) + (zI h 40 (x1).toNatClampNeg)) ≤ (nI p)) → (¬ (nI p) ≤ ((Int32.ofInt 12) * x1)) → WP 156 0 [some (.ref 35), some (.int ((nI p) - (Int32.ofInt 1))), some (.int (nI p))] [] h (fun v1 h1 => WP 158 187 [some (.ref 35), some (.int x1), some (.int x2), some (.int x3), some (.int (if (nI gr) < ((zI h 42 ((nI p)).toNatClampNeg) + (zI h 38 ((zI h 41 ((nI p)).toNatClampNeg)).toNatClampNeg)) then ((zI h 42 ((nI p)).toNatClampNeg) + (zI h 38 ((zI h 41 ((nI p)).toNatClampNeg)).toNatClampNeg)) else (nI gr))), some (.int sm), some (.int (nI p))] (v1.toList ++ [.int sm]) h1 Q)) : WP 158 137 [some (.ref 35), some (.int x1), some (.int x2), some (.int x3), some (.int (nI gr)), some (.int sm), some (.int (nI p))] [] h Q :=
  B158_137 (S.T 35) (S.R 35 22) ⟨(S.T 40), (S.bd 40 g1)⟩ (fun c2 => B158_200 (fun c3 => B158_215 (fun c4 => B158_229 (fun c5 => B158_239 (B158_241 (k6 c2 c3 c4 c5))) (fun c5 => B158_234 (B158_241 (k7 c2 c3 c4 c5)))) (fun c4 => B158_220 (S.T 35) (S.R 35 22) ⟨(S.T 40), (S.bd 40 (g8 c2 c3 c4))⟩ (B158_241 (k9 c2 c3 c4)))) (fun c3 => B158_204 (S.T 35) (S.R 35 21) ⟨(S.T 39), (S.bd 39 (g10 c2 c3))⟩ (B158_241 (k11 c2 c3)))) (fun c2 => B158_153 (S.T 35) (B157_0 (S.T 35) (S.R 35 24) ⟨(S.T 42), (S.bd 42 (g12 c2))⟩ (S.R 35 20) (S.R 35 23) ⟨(S.T 41), (S.bd 41 (g13 c2))⟩ ⟨(S.T 38), (S.bd 38 (g14 c2))⟩ (B158_161 (fun c15 => B158_190 (B158_191 (k16 c2 c15))) (fun c15 => B158_177 (S.T 35) (k17 c2 c15)))))
theorem V158r {h : pm_H} {Q : Option Value → pm_H → Prop} {x1 : Int32} {x2 : Int32} {x3 : Int32} {sm : Int32} {x5 : Int32} {gr : Nat} {p : Nat} (S : SK h) (k1 : WP 158 137 [some (.ref 35), some (.int x1), some (.int x2), some (.int x3), some (.int (nI gr)), some (.int (sm + x5)), some (.int ((nI p) + (Int32.ofInt 1)))] [] h Q) : WP 158 187 [some (.ref 35), some (.int x1), some (.int x2), some (.int x3), some (.int (nI gr)), some (.int sm), some (.int (nI p))] [.int x5, .int sm] h Q :=
  B158_187 (B158_191 (k1))
def eH (B : Bk) (c k : Nat) : Nat := (ptL B c k).2.1 + (stL B (ptL B c k).1).2.length
def gH (B : Bk) (c : Nat) : Nat → Nat
  | 0 => 0
  | k + 1 => if gH B c k < eH B c k then eH B c k else gH B c k
def sumV (B : Bk) (c : Nat) : Nat → Int
  | 0 => 0
  | k + 1 => sumV B c k + pV B (ptL B c k) (ptL B c (k + 1))
theorem eH_b {B : Bk} (bo : bk_ok B) {c k : Nat} (hc : c < B.2.length) (hk : k < (clL B c).2.length) : eH B c k ≤ 450 := by
  obtain ⟨u1, u2, u3, u4⟩ := bk_cl bo hc
  obtain ⟨v1, v2⟩ := u4 k hk
  have := (bk_st bo v1).1.2.1
  unfold eH
  omega
theorem gH_b {B : Bk} (bo : bk_ok B) {c : Nat} (hc : c < B.2.length) : ∀ k, k ≤ (clL B c).2.length → gH B c k ≤ 450
  | 0, _ => Nat.zero_le _
  | k + 1, h => by
    have h1 := gH_b bo hc k (by omega)
    have h2 := eH_b bo hc (k := k) (by omega)
    unfold gH
    split <;> omega
theorem Sm.tr {h g f : pm_H} (p : Sm h g) (q : Sm g f) : Sm h f := ⟨(p.1.tr q.1).sub (by decide), fun j h1 h2 => (q.2 j h1 h2).trans (p.2 j h1 h2)⟩
section CLOTH
variable {h : pm_H} {Q : Option Value → pm_H → Prop} {B : Bk}
theorem c22 {q c : Nat} (S : SK h) (bo : bk_ok B) (hc : c < B.2.length) (hq : atQ h q B c) (k0 : Q (some (.int (nI (gH B c (clL B c).2.length)))) h) : WP 22 0 [some (.ref q), none, none] [] h Q := by
  obtain ⟨q1, q2, q3, q4, pa, q5, q6, q7, q8, q9⟩ := id hq
  obtain ⟨u1, u2, u3, u4⟩ := bk_cl bo hc
  have L : ∀ m k, k + m = (clL B c).2.length → WP 22 4 [some (.ref q), some (.int (nI (gH B c k))), some (.int (nI k))] [] h Q := by
    intro m
    induction m with
    | zero =>
      intro k hk
      obtain rfl : k = (clL B c).2.length := by omega
      refine V22L (b5 := 0) (b8 := 0) (b12 := 0) (b15 := 0) S ?_ ?_ ?_ ?_ ?_ ?_ ?_ ?_ ?_ ?_ ?_ ?_ ?_ <;> simp (disch := omega) only [oi_l, oi_n, z_nI, nIA, nIM, nIS, nIlt, nIle, nIeq, nIC, vpI, Nat.add_sub_cancel, Nat.not_le, Nat.not_lt, Nat.not_lt_zero, Nat.le_refl, not_true_eq_false, not_false_eq_true, false_imp_iff, true_imp_iff, forall_const, implies_true, Nat.reduceEqDiff, Nat.reduceLeDiff, Nat.reduceLT, q2, q4]
      exact k0
    | succ m ih =>
      intro k hk
      have ih' := ih (k + 1) (by omega)
      obtain ⟨w, w1, a1, a2, ⟨r, a3, ⟨s1, s2, s3, pb, ea, s4, s5, s6, s7, s8, -⟩⟩, a5, a6, a7⟩ := q9 k (by omega)
      have h1 := gH_b bo hc k (by omega)
      have h2 := eH_b bo hc (k := k) (by omega)
      have h3 : (ptL B c k).2.1 + (stL B (ptL B c k).1).2.length = eH B c k := rfl
      have hk' : ¬ (clL B c).2.length ≤ k := by omega
      have v2 := (u4 k (by omega)).2
      by_cases hg : gH B c k < eH B c k
      · rw [show gH B c (k + 1) = eH B c k from if_pos hg] at ih'
        refine V22L (b5 := pa) (b8 := w) (b12 := r) (b15 := pb) S ?_ ?_ ?_ ?_ ?_ ?_ ?_ ?_ ?_ ?_ ?_ ?_ ?_ <;> simp (disch := omega) only [oi_l, oi_n, z_nI, nIA, nIM, nIS, nIlt, nIle, nIeq, nIC, vpI, Nat.add_sub_cancel, Nat.not_le, Nat.not_lt, Nat.not_lt_zero, Nat.le_refl, not_true_eq_false, not_false_eq_true, false_imp_iff, true_imp_iff, forall_const, implies_true, Nat.reduceEqDiff, Nat.reduceLeDiff, Nat.reduceLT, q2, q4, q5, q7, q8, w1, a2, a3, a7, s2, s4, s6, s7, h3, hk', hg, Nat.reduceEqDiff, Nat.reduceLeDiff, true_or, or_true, true_and, and_self, ↓reduceIte] <;> first | omega | exact ih'
      · rw [show gH B c (k + 1) = gH B c k from if_neg hg] at ih'
        refine V22L (b5 := pa) (b8 := w) (b12 := r) (b15 := pb) S ?_ ?_ ?_ ?_ ?_ ?_ ?_ ?_ ?_ ?_ ?_ ?_ ?_ <;> simp (disch := omega) only [oi_l, oi_n, z_nI, nIA, nIM, nIS, nIlt, nIle, nIeq, nIC, vpI, Nat.add_sub_cancel, Nat.not_le, Nat.not_lt, Nat.not_lt_zero, Nat.le_refl, not_true_eq_false, not_false_eq_true, false_imp_iff, true_imp_iff, forall_const, implies_true, Nat.reduceEqDiff, Nat.reduceLeDiff, Nat.reduceLT, q2, q4, q5, q7, q8, w1, a2, a3, a7, s2, s4, s6, s7, h3, hk', hg, Nat.reduceEqDiff, Nat.reduceLeDiff, true_or, or_true, true_and, and_self, ↓reduceIte] <;> first | omega | exact ih'
  exact V22 S (L _ 0 (Nat.zero_add _))
theorem c53 {q c : Nat} (S : SK h) (bo : bk_ok B) (hc : c < B.2.length) (hq : atQ h q B c) (k0 : ∀ g, Same [11] h g → Q (some (.int (Int32.ofInt (sumV B c ((clL B c).2.length - 1))))) g) : WP 53 0 [some (.ref 11), some (.ref q), none, none] [] h Q := by
  obtain ⟨u1, u2, u3, u4⟩ := bk_cl bo hc
  have L : ∀ m k (g : pm_H), k + m = (clL B c).2.length - 1 → Same [11] h g → WP 53 4 [some (.ref 11), some (.ref q), some (.int (Int32.ofInt (sumV B c k))), some (.int (nI k))] [] g Q := by
    intro m
    induction m with
    | zero =>
      intro k g hk sg
      obtain ⟨q1, q2, q3, q4, pa, q5, q6, q7, q8, q9⟩ := hq.keep (sg.D (by decide))
      obtain rfl : k = (clL B c).2.length - 1 := by omega
      refine V53L (b5 := 0) (b8 := 0) (b11 := 0) (sg.SK S) ?_ ?_ ?_ ?_ ?_ ?_ ?_ ?_ ?_ <;> simp (disch := omega) only [oi_l, oi_n, z_nI, nIA, nIM, nIS, nIlt, nIle, nIeq, nIC, vpI, Nat.add_sub_cancel, Nat.not_le, Nat.not_lt, Nat.not_lt_zero, Nat.le_refl, not_true_eq_false, not_false_eq_true, false_imp_iff, true_imp_iff, forall_const, implies_true, Nat.reduceEqDiff, Nat.reduceLeDiff, Nat.reduceLT, q2, q4, show (clL B c).2.length ≤ (clL B c).2.length - 1 + 1 by omega]
      exact k0 g sg
    | succ m ih =>
      intro k g hk sg
      obtain ⟨q1, q2, q3, q4, pa, q5, q6, q7, q8, q9⟩ := hq.keep (sg.D (by decide))
      obtain ⟨w, w1, w2⟩ := q9 k (by omega)
      obtain ⟨w', w1', w2'⟩ := q9 (k + 1) (by omega)
      refine V53L (b5 := pa) (b8 := w) (b11 := w') (sg.SK S) ?_ ?_ ?_ ?_ ?_ ?_ ?_ ?_ ?_ <;> simp (disch := omega) only [oi_l, oi_n, z_nI, nIA, nIM, nIS, nIlt, nIle, nIeq, nIC, vpI, Nat.add_sub_cancel, Nat.not_le, Nat.not_lt, Nat.not_lt_zero, Nat.le_refl, not_true_eq_false, not_false_eq_true, false_imp_iff, true_imp_iff, forall_const, implies_true, Nat.reduceEqDiff, Nat.reduceLeDiff, Nat.reduceLT, q2, q4, q5, q7, q8, w1, w1', show ¬ (clL B c).2.length ≤ k + 1 by omega, Nat.reduceEqDiff, true_or, or_true, true_and] <;> (try omega)
      refine c51 (sg.SK S) bo w2 w2' (u4 k (by omega)) (u4 (k + 1) (by omega)) (fun g2 sg2 e0 e1 => ?_)
      have sg3 : Same [11] h g2 := (sg.tr sg2).sub (by decide)
      refine V53r (sg3.SK S) ?_
      rw [e0, e1, sV_n, ← Int32.ofInt_add]
      simp (disch := omega) only [oi_l, oi_n, z_nI, nIA, nIM, nIS, nIlt, nIle, nIeq, nIC, vpI, Nat.add_sub_cancel, Nat.not_le, Nat.not_lt, Nat.not_lt_zero, Nat.le_refl, not_true_eq_false, not_false_eq_true, false_imp_iff, true_imp_iff, forall_const, implies_true, Nat.reduceEqDiff, Nat.reduceLeDiff, Nat.reduceLT]
      exact ih (k + 1) g2 (by omega) sg3
  exact V53 S (L _ 0 h (Nat.zero_add _) Same.rf)
theorem m158L {c v : Nat} {x2 : Int32} (S0 : SK h) (hv : v ≤ 3) (bo : bk_ok B) (hc : c < B.2.length) (m0 : MB h B) (k0 : ∀ g, Sm h g → Q (some (.int (if v = 0 then nI (clL B c).1 else if v = 1 then nI (clL B c).2.length else if v = 2 then nI (gH B c (clL B c).2.length) else Int32.ofInt (sumV B c ((clL B c).2.length - 1))))) g) :
    ∀ m k (g : pm_H), k + m = (clL B c).2.length → Sm h g → WP 158 137 [some (.ref 35), some (.int (nI c)), some (.int x2), some (.int (nI v)), some (.int (nI (gH B c k))), some (.int (Int32.ofInt (sumV B c (k - 1)))), some (.int (nI (12 * c + k)))] [] g Q := by
  obtain ⟨u1, u2, u3, u4⟩ := bk_cl bo hc
  have hl := bo.2.1
  have hl1 := bo.1
  intro m
  induction m with
  | zero =>
    intro k g hk sg
    have S := sg.1.SK S0
    have M := m0.keep (sg.K (x := false))
    obtain ⟨m1, m2, m3⟩ := M.2.2.2 c hc
    obtain rfl : k = (clL B c).2.length := by omega
    have k0' := k0 g sg
    refine V158L  S ?_ ?_ ?_ ?_ ?_ ?_ ?_ ?_ ?_ ?_ ?_ ?_ <;> simp (disch := omega) only [oi_l, oi_n, z_nI, nIA, nIM, nIS, nIlt, nIle, nIeq, nIC, vpI, Nat.add_sub_cancel, Nat.not_le, Nat.not_lt, Nat.not_lt_zero, Nat.le_refl, not_true_eq_false, not_false_eq_true, false_imp_iff, true_imp_iff, forall_const, implies_true, Nat.reduceEqDiff, Nat.reduceLeDiff, Nat.reduceLT, m1, m2] <;> (try omega)
    · intro a b c; rw [if_neg a, if_neg b, if_neg c] at k0'; exact k0'
    · intro a b c; rw [if_neg a, if_neg b, if_pos c] at k0'; exact k0'
    · intro a b; rw [if_neg a, if_pos b] at k0'; exact k0'
    · intro a; rw [if_pos a] at k0'; exact k0'
  | succ m ih =>
    intro k g hk sg
    have S := sg.1.SK S0
    have M := m0.keep (sg.K (x := false))
    obtain ⟨m1, m2, m3⟩ := M.2.2.2 c hc
    obtain ⟨o1, o2, o3⟩ := m3 k (by omega)
    obtain ⟨p1, p2⟩ := u4 k (by omega)
    obtain ⟨v0, v1, v2⟩ := M.2.2.1 _ p1
    have l1 := (bk_st bo p1).1.2.1
    have h1 := gH_b bo hc k (by omega)
    have h2 := eH_b bo hc (k := k) (by omega)
    have h3 : (ptL B c k).2.1 + (stL B (ptL B c k).1).2.length = eH B c k := rfl
    have hk' : ¬ 12 * c + (clL B c).2.length ≤ 12 * c + k := by omega
    have step : ∀ g', Sm h g' → WP 158 137 [some (.ref 35), some (.int (nI c)), some (.int x2), some (.int (nI v)), some (.int (nI (gH B c (k + 1)))), some (.int (Int32.ofInt (sumV B c k))), some (.int (nI (12 * c + k + 1)))] [] g' Q := fun g' s' => ih (k + 1) g' (by omega) s'
    by_cases k0' : k = 0
    · subst k0'
      have step' := step g sg
      simp only [Nat.add_zero] at o1 o2 hk' step'
      have e0 : Int32.ofInt (sumV B c (0 - 1)) + nI 0 = Int32.ofInt (sumV B c 0) := rfl
      by_cases hg : gH B c 0 < eH B c 0
      · rw [show gH B c (0 + 1) = eH B c 0 from if_pos hg] at step'
        refine V158L  S ?_ ?_ ?_ ?_ ?_ ?_ ?_ ?_ ?_ ?_ ?_ ?_ <;> simp (disch := omega) only [oi_l, oi_n, z_nI, nIA, nIM, nIS, nIlt, nIle, nIeq, nIC, vpI, Nat.add_sub_cancel, Nat.not_le, Nat.not_lt, Nat.not_lt_zero, Nat.le_refl, not_true_eq_false, not_false_eq_true, false_imp_iff, true_imp_iff, forall_const, implies_true, Nat.reduceEqDiff, Nat.reduceLeDiff, Nat.reduceLT, m2, o1, o2, v1, h3, hk', hg, e0, Nat.add_zero, ↓reduceIte, implies_true] <;> first | omega | exact step'
      · rw [show gH B c (0 + 1) = gH B c 0 from if_neg hg] at step'
        refine V158L  S ?_ ?_ ?_ ?_ ?_ ?_ ?_ ?_ ?_ ?_ ?_ ?_ <;> simp (disch := omega) only [oi_l, oi_n, z_nI, nIA, nIM, nIS, nIlt, nIle, nIeq, nIC, vpI, Nat.add_sub_cancel, Nat.not_le, Nat.not_lt, Nat.not_lt_zero, Nat.le_refl, not_true_eq_false, not_false_eq_true, false_imp_iff, true_imp_iff, forall_const, implies_true, Nat.reduceEqDiff, Nat.reduceLeDiff, Nat.reduceLT, m2, o1, o2, v1, h3, hk', hg, e0, Nat.add_zero, ↓reduceIte, implies_true] <;> first | omega | exact step'
    · obtain ⟨o1', o2', o3'⟩ := m3 (k - 1) (by omega)
      have q1 : ¬ 12 * c + k ≤ 12 * c := by omega
      have C : ∀ gr, nI gr = nI (gH B c (k + 1)) → WP 156 0 [some (.ref 35), some (.int (nI (12 * c + k - 1))), some (.int (nI (12 * c + k)))] [] g (fun v1 h1 => WP 158 187 [some (.ref 35), some (.int (nI c)), some (.int x2), some (.int (nI v)), some (.int (nI gr)), some (.int (Int32.ofInt (sumV B c (k - 1)))), some (.int (nI (12 * c + k)))] (v1.toList ++ [.int (Int32.ofInt (sumV B c (k - 1)))]) h1 Q) := by
        intro gr eg
        rw [eg]
        refine c156 (p := ptL B c (k - 1)) (q := ptL B c k) S bo M (by omega) (by omega) (by rw [show 12 * c + k - 1 = 12 * c + (k - 1) by omega]; exact o1') (by rw [show 12 * c + k - 1 = 12 * c + (k - 1) by omega]; exact o2') (by rw [show 12 * c + k - 1 = 12 * c + (k - 1) by omega]; exact o3') o1 o2 o3 (u4 _ (by omega)) (u4 _ (by omega)) (fun g2 s2 f0 f1 => ?_)
        have s3 : Sm h g2 := sg.tr s2
        refine V158r (s3.1.SK S0) ?_
        rw [← Int32.ofInt_add]
        simp (disch := omega) only [oi_l, oi_n, z_nI, nIA, nIM, nIS, nIlt, nIle, nIeq, nIC, vpI, Nat.add_sub_cancel, Nat.not_le, Nat.not_lt, Nat.not_lt_zero, Nat.le_refl, not_true_eq_false, not_false_eq_true, false_imp_iff, true_imp_iff, forall_const, implies_true, Nat.reduceEqDiff, Nat.reduceLeDiff, Nat.reduceLT]
        have := step g2 s3
        rw [show sumV B c k = sumV B c (k - 1) + pV B (ptL B c (k - 1)) (ptL B c k) by rw [show k = (k - 1) + 1 by omega]; rfl] at this
        exact this
      by_cases hg : gH B c k < eH B c k
      · have C' := C (eH B c k) (by rw [show gH B c (k + 1) = eH B c k from if_pos hg])
        refine V158L  S ?_ ?_ ?_ ?_ ?_ ?_ ?_ ?_ ?_ ?_ ?_ ?_ <;> simp (disch := omega) only [oi_l, oi_n, z_nI, nIA, nIM, nIS, nIlt, nIle, nIeq, nIC, vpI, Nat.add_sub_cancel, Nat.not_le, Nat.not_lt, Nat.not_lt_zero, Nat.le_refl, not_true_eq_false, not_false_eq_true, false_imp_iff, true_imp_iff, forall_const, implies_true, Nat.reduceEqDiff, Nat.reduceLeDiff, Nat.reduceLT, m2, o1, o2, v1, h3, hk', hg, q1, ↓reduceIte] <;> first | omega | exact C'
      · have C' := C (gH B c k) (by rw [show gH B c (k + 1) = gH B c k from if_neg hg])
        refine V158L  S ?_ ?_ ?_ ?_ ?_ ?_ ?_ ?_ ?_ ?_ ?_ ?_ <;> simp (disch := omega) only [oi_l, oi_n, z_nI, nIA, nIM, nIS, nIlt, nIle, nIeq, nIC, vpI, Nat.add_sub_cancel, Nat.not_le, Nat.not_lt, Nat.not_lt_zero, Nat.le_refl, not_true_eq_false, not_false_eq_true, false_imp_iff, true_imp_iff, forall_const, implies_true, Nat.reduceEqDiff, Nat.reduceLeDiff, Nat.reduceLT, m2, o1, o2, v1, h3, hk', hg, q1, ↓reduceIte] <;> first | omega | exact C'
end CLOTH
/-- CLOTH -/
theorem p_cloth {h : pm_H} {x1 x2 x3 : Int32} (I : INV h) : PAIR 92 158 [.int x1, .int x2, .int x3] h := by
  obtain ⟨S, n1, i1, i2, i3, i4, i5, B, bo, ⟨b, b2, hb⟩, b3⟩ := id I
  have m := MB.of b3
  have hl := bo.2.1
  have hl1 := bo.1
  have m16 := m.2.1
  have S1 : ∀ v, SK (yI h 0 0 v) := fun v => ((Kp.rf.I0 0 _ rfl) : Kp false h _).SK S
  rcases i32c x1 with hx | ⟨c, hc, rfl⟩
  · refine V92 S b2 hb.2.1 (c16N S hx (V92n S ?_))
    refine V158  (S1 _) ?_ ?_ ?_ ?_ ?_ ?_ ?_ ?_ ?_ ?_ ?_ ?_ ?_ ?_ ?_ ?_ ?_ ?_ ?_ <;> simp (disch := omega) only [oi_l, oi_n, z_nI, nIA, nIM, nIS, nIlt, nIle, nIeq, nIC, vpI, Nat.add_sub_cancel, Nat.not_le, Nat.not_lt, Nat.not_lt_zero, Nat.le_refl, not_true_eq_false, not_false_eq_true, false_imp_iff, true_imp_iff, forall_const, implies_true, Nat.reduceEqDiff, Nat.reduceLeDiff, Nat.reduceLT, zI_yI, va_upA, Nat.reduceEqDiff, ↓reduceIte, ngLt hx]
    first | exact pfin I ((((Kp.rf.I0 0 _ rfl).I35 1 _ rfl).I35 0 _ rfl).I35 0 _ rfl) (by simp [zI_yI, va_upA]) | exact pfinT I ((((Kp.rf.I0 0 _ rfl).I35 1 _ rfl).I35 0 _ rfl).I35 0 _ rfl) (by simp [zI_yI, va_upA])
  by_cases hc2 : c < B.2.length
  · obtain ⟨u1, u2, u3, u4⟩ := bk_cl bo hc2
    obtain ⟨m1, m2, m3⟩ := m.2.2.2 c hc2
    have hc3 : ¬ B.2.length ≤ c := by omega
    refine V92 S b2 hb.2.1 (c16S S hb bo hc2 (fun q hq => ?_))
    have qm : ∀ n : Nat, n < 2147483648 → ¬ nI n = Int32.ofInt (-1) := fun n hn e => by
      have := congrArg Int32.toInt e
      rw [nI_i hn, Int32.toInt_ofInt_of_le (by decide) (by decide)] at this
      omega
    have qm2 : ∀ n : Nat, n < 2147483648 → (nI n < Int32.ofInt (-1)) = False := fun n hn => by
      rw [eq_iff_iff, iff_false, lt_oi (by decide) (by decide), nI_i hn]; omega
    by_cases hy : x2 < 0
    · by_cases hy1 : x2 = Int32.ofInt (-1)
      · subst hy1
        obtain ⟨q1, q2, q3, q4, -⟩ := id hq
        have e1 : (Int32.ofInt (-1) < Int32.ofInt (-1)) = False := by decide
        have e2 : ∀ n : Nat, n < 13 → (Int32.ofInt (-1) < nI n) = True := fun n hn => by
          rw [eq_iff_iff, iff_true, oi_lt (by decide) (by decide), nI_i (by omega)]; omega
        refine V92r  S ?_ ?_ ?_ <;> simp (disch := omega) only [oi_l, oi_n, z_nI, nIA, nIM, nIS, nIlt, nIle, nIeq, nIC, vpI, Nat.add_sub_cancel, Nat.not_le, Nat.not_lt, Nat.not_lt_zero, Nat.le_refl, not_true_eq_false, not_false_eq_true, false_imp_iff, true_imp_iff, forall_const, implies_true, Nat.reduceEqDiff, Nat.reduceLeDiff, Nat.reduceLT]
        rcases i32c x3 with hz | ⟨v, hv, rfl⟩
        · refine V115  S ?_ ?_ ?_ ?_ ?_ ?_ ?_ ?_ <;> simp (disch := omega) only [oi_l, oi_n, z_nI, nIA, nIM, nIS, nIlt, nIle, nIeq, nIC, vpI, Nat.add_sub_cancel, Nat.not_le, Nat.not_lt, Nat.not_lt_zero, Nat.le_refl, not_true_eq_false, not_false_eq_true, false_imp_iff, true_imp_iff, forall_const, implies_true, Nat.reduceEqDiff, Nat.reduceLeDiff, Nat.reduceLT, ngE hz]
          refine V92t (S1 _) ?_
          refine V158  (S1 _) ?_ ?_ ?_ ?_ ?_ ?_ ?_ ?_ ?_ ?_ ?_ ?_ ?_ ?_ ?_ ?_ ?_ ?_ ?_ <;> simp (disch := omega) only [oi_l, oi_n, z_nI, nIA, nIM, nIS, nIlt, nIle, nIeq, nIC, vpI, Nat.add_sub_cancel, Nat.not_le, Nat.not_lt, Nat.not_lt_zero, Nat.le_refl, not_true_eq_false, not_false_eq_true, false_imp_iff, true_imp_iff, forall_const, implies_true, Nat.reduceEqDiff, Nat.reduceLeDiff, Nat.reduceLT, zI_yI, va_upA, Nat.reduceEqDiff, ↓reduceIte, m16, m2, hc3, e1, e2 _ (show (clL B c).2.length < 13 by omega), ngLt hz] <;> (try omega)
          first | exact pfin I ((((Kp.rf.I0 0 _ rfl).I35 1 _ rfl).I35 0 _ rfl).I35 0 _ rfl) (by simp [zI_yI, va_upA]) | exact pfinT I ((((Kp.rf.I0 0 _ rfl).I35 1 _ rfl).I35 0 _ rfl).I35 0 _ rfl) (by simp [zI_yI, va_upA])
        by_cases hv3 : v ≤ 3
        · have M : ∀ (g : pm_H) (a : Int32), Kp false h g → a = (if v = 0 then nI (clL B c).1 else if v = 1 then nI (clL B c).2.length else if v = 2 then nI (gH B c (clL B c).2.length) else Int32.ofInt (sumV B c ((clL B c).2.length - 1))) → WP 158 0 [some (.ref 35), some (.int (nI c)), some (.int (Int32.ofInt (-1))), some (.int (nI v)), none, none, none] [] (yI g 0 0 (nI 0)) (fun v2 h2 => some (.int a) = v2 ∧ INV h2 ∧ (∃ x, some (Value.int a) = some (Value.int x)) ∧ zn h2 ≤ zn h + 200 ∧ zk h2 ≤ zk h + 14000) := by
            intro g a K1 ea
            have K : Kp false h (yI (yI (yI g 0 0 (nI 0)) 35 1 (nI 0)) 35 0 (nI 0)) := (((K1.I0 0 _ rfl).I35 1 _ rfl).I35 0 _ rfl)
            have L := m158L (x2 := Int32.ofInt (-1)) (v := v) (c := c) (Q := fun v2 h2 => some (.int a) = v2 ∧ INV h2 ∧ (∃ x, some (Value.int a) = some (Value.int x)) ∧ zn h2 ≤ zn h + 200 ∧ zk h2 ≤ zk h + 14000) (K.SK S) hv3 bo hc2 (m.keep K) (fun g2 s2 => by
              have K2 : Kp false h g2 := K.tr s2.K
              exact ⟨by rw [ea], I.gen K2 (by rw [s2.1.1 0 (by decide), s2.2 0 (by decide) (by decide)]; simp [zI_yI, va_upA]), ⟨_, rfl⟩, K2.cn⟩) (clL B c).2.length 0 _ (Nat.zero_add _) Sm.rf
            refine V158  (((K1.I0 0 _ rfl) : Kp false h _).SK S) ?_ ?_ ?_ ?_ ?_ ?_ ?_ ?_ ?_ ?_ ?_ ?_ ?_ ?_ ?_ ?_ ?_ ?_ ?_ <;> simp (disch := omega) only [oi_l, oi_n, z_nI, nIA, nIM, nIS, nIlt, nIle, nIeq, nIC, vpI, Nat.add_sub_cancel, Nat.not_le, Nat.not_lt, Nat.not_lt_zero, Nat.le_refl, not_true_eq_false, not_false_eq_true, false_imp_iff, true_imp_iff, forall_const, implies_true, Nat.reduceEqDiff, Nat.reduceLeDiff, Nat.reduceLT, zI_yI, va_upA, Nat.reduceEqDiff, ↓reduceIte, K1.2.2.1 16 rfl, K1.r 40, m16, m2, hc3, e1, e2 _ (show (clL B c).2.length < 13 by omega), e2 0 (by decide), hv3] <;> (try omega)
            exact L
          refine V115  S ?_ ?_ ?_ ?_ ?_ ?_ ?_ ?_ <;> simp (disch := omega) only [oi_l, oi_n, z_nI, nIA, nIM, nIS, nIlt, nIle, nIeq, nIC, vpI, Nat.add_sub_cancel, Nat.not_le, Nat.not_lt, Nat.not_lt_zero, Nat.le_refl, not_true_eq_false, not_false_eq_true, false_imp_iff, true_imp_iff, forall_const, implies_true, Nat.reduceEqDiff, Nat.reduceLeDiff, Nat.reduceLT, q2, q3, q4, implies_true]
          · intro e; exact V92t (S1 _) (M h _ Kp.rf (by rw [if_pos e]))
          · intro e f; exact V92t (S1 _) (M h _ Kp.rf (by rw [if_neg e, if_pos f]))
          · intro e f f2; exact c22 S bo hc2 hq (V115g S (V92t (S1 _) (M h _ Kp.rf (by rw [if_neg e, if_neg f, if_pos f2]))))
          · intro e f f2 f3; exact c53 S bo hc2 hq (fun g sg => V115v (sg.SK S) (V92t ((((Kp.of sg rfl).I0 0 _ rfl) : Kp false h _).SK S) (M g _ (Kp.of sg rfl) (by rw [if_neg e, if_neg f, if_neg f2]))))
          · intro e f f2 f3; omega
        · refine V115  S ?_ ?_ ?_ ?_ ?_ ?_ ?_ ?_ <;> simp (disch := omega) only [oi_l, oi_n, z_nI, nIA, nIM, nIS, nIlt, nIle, nIeq, nIC, vpI, Nat.add_sub_cancel, Nat.not_le, Nat.not_lt, Nat.not_lt_zero, Nat.le_refl, not_true_eq_false, not_false_eq_true, false_imp_iff, true_imp_iff, forall_const, implies_true, Nat.reduceEqDiff, Nat.reduceLeDiff, Nat.reduceLT, show ¬ v = 0 by omega, show ¬ v = 1 by omega, show ¬ v = 2 by omega, show ¬ v = 3 by omega]
          refine V92t (S1 _) ?_
          refine V158  (S1 _) ?_ ?_ ?_ ?_ ?_ ?_ ?_ ?_ ?_ ?_ ?_ ?_ ?_ ?_ ?_ ?_ ?_ ?_ ?_ <;> simp (disch := omega) only [oi_l, oi_n, z_nI, nIA, nIM, nIS, nIlt, nIle, nIeq, nIC, vpI, Nat.add_sub_cancel, Nat.not_le, Nat.not_lt, Nat.not_lt_zero, Nat.le_refl, not_true_eq_false, not_false_eq_true, false_imp_iff, true_imp_iff, forall_const, implies_true, Nat.reduceEqDiff, Nat.reduceLeDiff, Nat.reduceLT, zI_yI, va_upA, Nat.reduceEqDiff, ↓reduceIte, m16, m2, hc3, e1, e2 _ (show (clL B c).2.length < 13 by omega), hv3] <;> (try omega)
          first | exact pfin I ((((Kp.rf.I0 0 _ rfl).I35 1 _ rfl).I35 0 _ rfl).I35 0 _ rfl) (by simp [zI_yI, va_upA]) | exact pfinT I ((((Kp.rf.I0 0 _ rfl).I35 1 _ rfl).I35 0 _ rfl).I35 0 _ rfl) (by simp [zI_yI, va_upA])
      · have hy2 : x2 < Int32.ofInt (-1) := by
          rw [lt_oi (by decide) (by decide)]; rw [eq_oi (by decide) (by decide)] at hy1; rw [lt_z] at hy; omega
        refine V92r  S ?_ ?_ ?_ <;> simp (disch := omega) only [oi_l, oi_n, z_nI, nIA, nIM, nIS, nIlt, nIle, nIeq, nIC, vpI, Nat.add_sub_cancel, Nat.not_le, Nat.not_lt, Nat.not_lt_zero, Nat.le_refl, not_true_eq_false, not_false_eq_true, false_imp_iff, true_imp_iff, forall_const, implies_true, Nat.reduceEqDiff, Nat.reduceLeDiff, Nat.reduceLT, hy1, hq.2.1]
        refine c21N S hy (V92pn S ?_)
        refine V158  (S1 _) ?_ ?_ ?_ ?_ ?_ ?_ ?_ ?_ ?_ ?_ ?_ ?_ ?_ ?_ ?_ ?_ ?_ ?_ ?_ <;> simp (disch := omega) only [oi_l, oi_n, z_nI, nIA, nIM, nIS, nIlt, nIle, nIeq, nIC, vpI, Nat.add_sub_cancel, Nat.not_le, Nat.not_lt, Nat.not_lt_zero, Nat.le_refl, not_true_eq_false, not_false_eq_true, false_imp_iff, true_imp_iff, forall_const, implies_true, Nat.reduceEqDiff, Nat.reduceLeDiff, Nat.reduceLT, zI_yI, va_upA, Nat.reduceEqDiff, ↓reduceIte, m16, hc3, hy2]
        first | exact pfin I ((((Kp.rf.I0 0 _ rfl).I35 1 _ rfl).I35 0 _ rfl).I35 0 _ rfl) (by simp [zI_yI, va_upA]) | exact pfinT I ((((Kp.rf.I0 0 _ rfl).I35 1 _ rfl).I35 0 _ rfl).I35 0 _ rfl) (by simp [zI_yI, va_upA])
    · rcases i32c x2 with hy' | ⟨k, hk, rfl⟩
      · exact absurd hy' hy
      refine V92r  S ?_ ?_ ?_ <;> simp (disch := omega) only [oi_l, oi_n, z_nI, nIA, nIM, nIS, nIlt, nIle, nIeq, nIC, vpI, Nat.add_sub_cancel, Nat.not_le, Nat.not_lt, Nat.not_lt_zero, Nat.le_refl, not_true_eq_false, not_false_eq_true, false_imp_iff, true_imp_iff, forall_const, implies_true, Nat.reduceEqDiff, Nat.reduceLeDiff, Nat.reduceLT, qm, hq.2.1]
      by_cases hk2 : k < (clL B c).2.length
      · refine c21S S hq u3 hk2 (fun w hw => ?_)
        obtain ⟨o1, o2, o3⟩ := m3 k hk2
        have hp := u4 k hk2
        obtain ⟨v0, v1, v2⟩ := m.2.2.1 _ hp.1
        have l1 := (bk_st bo hp.1).1.2.1
        obtain ⟨a1, a2, ⟨r, a3, ⟨s1, s2, s3, pb, ea, s4, s5, s6, s7, s8, -⟩⟩, a5, a6, a7⟩ := id hw
        have hp2 := hp.2
        refine V92p S ?_
        rcases i32c x3 with hz | ⟨v, hv, rfl⟩
        · refine V116 (b12 := r) (b15 := pb) S ?_ ?_ ?_ ?_ ?_ ?_ ?_ ?_ ?_ ?_ ?_ ?_ ?_ ?_ ?_ <;> simp (disch := omega) only [oi_l, oi_n, z_nI, nIA, nIM, nIS, nIlt, nIle, nIeq, nIC, vpI, Nat.add_sub_cancel, Nat.not_le, Nat.not_lt, Nat.not_lt_zero, Nat.le_refl, not_true_eq_false, not_false_eq_true, false_imp_iff, true_imp_iff, forall_const, implies_true, Nat.reduceEqDiff, Nat.reduceLeDiff, Nat.reduceLT, ngE hz]
          refine V92s (S1 _) ?_
          refine V158  (S1 _) ?_ ?_ ?_ ?_ ?_ ?_ ?_ ?_ ?_ ?_ ?_ ?_ ?_ ?_ ?_ ?_ ?_ ?_ ?_ <;> simp (disch := omega) only [oi_l, oi_n, z_nI, nIA, nIM, nIS, nIlt, nIle, nIeq, nIC, vpI, Nat.add_sub_cancel, Nat.not_le, Nat.not_lt, Nat.not_lt_zero, Nat.le_refl, not_true_eq_false, not_false_eq_true, false_imp_iff, true_imp_iff, forall_const, implies_true, Nat.reduceEqDiff, Nat.reduceLeDiff, Nat.reduceLT, zI_yI, va_upA, Nat.reduceEqDiff, ↓reduceIte, m16, m2, hc3, hk2, qm2, ngLt hz] <;> (try omega)
          first | exact pfin I ((((Kp.rf.I0 0 _ rfl).I35 1 _ rfl).I35 0 _ rfl).I35 0 _ rfl) (by simp [zI_yI, va_upA]) | exact pfinT I ((((Kp.rf.I0 0 _ rfl).I35 1 _ rfl).I35 0 _ rfl).I35 0 _ rfl) (by simp [zI_yI, va_upA])
        by_cases hv3 : v ≤ 3
        · have hv4 : v = 0 ∨ v = 1 ∨ v = 2 ∨ v = 3 := by omega
          rcases hv4 with rfl | rfl | rfl | rfl
          · refine V116 (b12 := r) (b15 := pb) S ?_ ?_ ?_ ?_ ?_ ?_ ?_ ?_ ?_ ?_ ?_ ?_ ?_ ?_ ?_ <;> simp (disch := omega) only [oi_l, oi_n, z_nI, nIA, nIM, nIS, nIlt, nIle, nIeq, nIC, vpI, Nat.add_sub_cancel, Nat.not_le, Nat.not_lt, Nat.not_lt_zero, Nat.le_refl, not_true_eq_false, not_false_eq_true, false_imp_iff, true_imp_iff, forall_const, implies_true, Nat.reduceEqDiff, Nat.reduceLeDiff, Nat.reduceLT, a2, a5, implies_true]
            refine V92s (S1 _) ?_
            refine V158  (S1 _) ?_ ?_ ?_ ?_ ?_ ?_ ?_ ?_ ?_ ?_ ?_ ?_ ?_ ?_ ?_ ?_ ?_ ?_ ?_ <;> simp (disch := omega) only [oi_l, oi_n, z_nI, nIA, nIM, nIS, nIlt, nIle, nIeq, nIC, vpI, Nat.add_sub_cancel, Nat.not_le, Nat.not_lt, Nat.not_lt_zero, Nat.le_refl, not_true_eq_false, not_false_eq_true, false_imp_iff, true_imp_iff, forall_const, implies_true, Nat.reduceEqDiff, Nat.reduceLeDiff, Nat.reduceLT, zI_yI, va_upA, Nat.reduceEqDiff, ↓reduceIte, m16, m2, hc3, hk2, qm2, o1] <;> (try omega)
            first | exact pfin I (((Kp.rf.I0 0 _ rfl).I35 1 _ rfl).I35 0 _ rfl) (by simp [zI_yI, va_upA]) | exact pfinT I (((Kp.rf.I0 0 _ rfl).I35 1 _ rfl).I35 0 _ rfl) (by simp [zI_yI, va_upA])
          · refine V116 (b12 := r) (b15 := pb) S ?_ ?_ ?_ ?_ ?_ ?_ ?_ ?_ ?_ ?_ ?_ ?_ ?_ ?_ ?_ <;> simp (disch := omega) only [oi_l, oi_n, z_nI, nIA, nIM, nIS, nIlt, nIle, nIeq, nIC, vpI, Nat.add_sub_cancel, Nat.not_le, Nat.not_lt, Nat.not_lt_zero, Nat.le_refl, not_true_eq_false, not_false_eq_true, false_imp_iff, true_imp_iff, forall_const, implies_true, Nat.reduceEqDiff, Nat.reduceLeDiff, Nat.reduceLT, a2, a7, implies_true]
            refine V92s (S1 _) ?_
            refine V158  (S1 _) ?_ ?_ ?_ ?_ ?_ ?_ ?_ ?_ ?_ ?_ ?_ ?_ ?_ ?_ ?_ ?_ ?_ ?_ ?_ <;> simp (disch := omega) only [oi_l, oi_n, z_nI, nIA, nIM, nIS, nIlt, nIle, nIeq, nIC, vpI, Nat.add_sub_cancel, Nat.not_le, Nat.not_lt, Nat.not_lt_zero, Nat.le_refl, not_true_eq_false, not_false_eq_true, false_imp_iff, true_imp_iff, forall_const, implies_true, Nat.reduceEqDiff, Nat.reduceLeDiff, Nat.reduceLT, zI_yI, va_upA, Nat.reduceEqDiff, ↓reduceIte, m16, m2, hc3, hk2, qm2, o2] <;> (try omega)
            first | exact pfin I (((Kp.rf.I0 0 _ rfl).I35 1 _ rfl).I35 0 _ rfl) (by simp [zI_yI, va_upA]) | exact pfinT I (((Kp.rf.I0 0 _ rfl).I35 1 _ rfl).I35 0 _ rfl) (by simp [zI_yI, va_upA])
          · cases ht : (ptL B c k).2.2 with
            | false =>
              rw [ht] at a6 o3
              refine V116 (b12 := r) (b15 := pb) S ?_ ?_ ?_ ?_ ?_ ?_ ?_ ?_ ?_ ?_ ?_ ?_ ?_ ?_ ?_ <;> simp (disch := omega) only [oi_l, oi_n, z_nI, nIA, nIM, nIS, nIlt, nIle, nIeq, nIC, vpI, Nat.add_sub_cancel, Nat.not_le, Nat.not_lt, Nat.not_lt_zero, Nat.le_refl, not_true_eq_false, not_false_eq_true, false_imp_iff, true_imp_iff, forall_const, implies_true, Nat.reduceEqDiff, Nat.reduceLeDiff, Nat.reduceLT, a2, a6, bI_f, implies_true]
              refine V92s (S1 _) ?_
              refine V158  (S1 _) ?_ ?_ ?_ ?_ ?_ ?_ ?_ ?_ ?_ ?_ ?_ ?_ ?_ ?_ ?_ ?_ ?_ ?_ ?_ <;> simp (disch := omega) only [oi_l, oi_n, z_nI, nIA, nIM, nIS, nIlt, nIle, nIeq, nIC, vpI, Nat.add_sub_cancel, Nat.not_le, Nat.not_lt, Nat.not_lt_zero, Nat.le_refl, not_true_eq_false, not_false_eq_true, false_imp_iff, true_imp_iff, forall_const, implies_true, Nat.reduceEqDiff, Nat.reduceLeDiff, Nat.reduceLT, zI_yI, va_upA, Nat.reduceEqDiff, ↓reduceIte, m16, m2, hc3, hk2, qm2, o3, bI_f] <;> (try omega)
              first | exact pfin I (((Kp.rf.I0 0 _ rfl).I35 1 _ rfl).I35 0 _ rfl) (by simp [zI_yI, va_upA]) | exact pfinT I (((Kp.rf.I0 0 _ rfl).I35 1 _ rfl).I35 0 _ rfl) (by simp [zI_yI, va_upA])
            | true =>
              rw [ht] at a6 o3
              refine V116 (b12 := r) (b15 := pb) S ?_ ?_ ?_ ?_ ?_ ?_ ?_ ?_ ?_ ?_ ?_ ?_ ?_ ?_ ?_ <;> simp (disch := omega) only [oi_l, oi_n, z_nI, nIA, nIM, nIS, nIlt, nIle, nIeq, nIC, vpI, Nat.add_sub_cancel, Nat.not_le, Nat.not_lt, Nat.not_lt_zero, Nat.le_refl, not_true_eq_false, not_false_eq_true, false_imp_iff, true_imp_iff, forall_const, implies_true, Nat.reduceEqDiff, Nat.reduceLeDiff, Nat.reduceLT, a2, a6, bI_t, implies_true]
              refine V92s (S1 _) ?_
              refine V158  (S1 _) ?_ ?_ ?_ ?_ ?_ ?_ ?_ ?_ ?_ ?_ ?_ ?_ ?_ ?_ ?_ ?_ ?_ ?_ ?_ <;> simp (disch := omega) only [oi_l, oi_n, z_nI, nIA, nIM, nIS, nIlt, nIle, nIeq, nIC, vpI, Nat.add_sub_cancel, Nat.not_le, Nat.not_lt, Nat.not_lt_zero, Nat.le_refl, not_true_eq_false, not_false_eq_true, false_imp_iff, true_imp_iff, forall_const, implies_true, Nat.reduceEqDiff, Nat.reduceLeDiff, Nat.reduceLT, zI_yI, va_upA, Nat.reduceEqDiff, ↓reduceIte, m16, m2, hc3, hk2, qm2, o3, bI_t] <;> (try omega)
              first | exact pfin I (((Kp.rf.I0 0 _ rfl).I35 1 _ rfl).I35 0 _ rfl) (by simp [zI_yI, va_upA]) | exact pfinT I (((Kp.rf.I0 0 _ rfl).I35 1 _ rfl).I35 0 _ rfl) (by simp [zI_yI, va_upA])
          · refine V116 (b12 := r) (b15 := pb) S ?_ ?_ ?_ ?_ ?_ ?_ ?_ ?_ ?_ ?_ ?_ ?_ ?_ ?_ ?_ <;> simp (disch := omega) only [oi_l, oi_n, z_nI, nIA, nIM, nIS, nIlt, nIle, nIeq, nIC, vpI, Nat.add_sub_cancel, Nat.not_le, Nat.not_lt, Nat.not_lt_zero, Nat.le_refl, not_true_eq_false, not_false_eq_true, false_imp_iff, true_imp_iff, forall_const, implies_true, Nat.reduceEqDiff, Nat.reduceLeDiff, Nat.reduceLT, a2, a3, a7, s2, s4, s6, s7, Nat.reduceLeDiff, and_self, implies_true]
            refine V92s (S1 _) ?_
            refine V158  (S1 _) ?_ ?_ ?_ ?_ ?_ ?_ ?_ ?_ ?_ ?_ ?_ ?_ ?_ ?_ ?_ ?_ ?_ ?_ ?_ <;> simp (disch := omega) only [oi_l, oi_n, z_nI, nIA, nIM, nIS, nIlt, nIle, nIeq, nIC, vpI, Nat.add_sub_cancel, Nat.not_le, Nat.not_lt, Nat.not_lt_zero, Nat.le_refl, not_true_eq_false, not_false_eq_true, false_imp_iff, true_imp_iff, forall_const, implies_true, Nat.reduceEqDiff, Nat.reduceLeDiff, Nat.reduceLT, zI_yI, va_upA, Nat.reduceEqDiff, ↓reduceIte, m16, m2, hc3, hk2, qm2, o1, o2, v1] <;> (try omega)
            first | exact pfin I (((Kp.rf.I0 0 _ rfl).I35 1 _ rfl).I35 0 _ rfl) (by simp [zI_yI, va_upA]) | exact pfinT I (((Kp.rf.I0 0 _ rfl).I35 1 _ rfl).I35 0 _ rfl) (by simp [zI_yI, va_upA])
        · refine V116 (b12 := r) (b15 := pb) S ?_ ?_ ?_ ?_ ?_ ?_ ?_ ?_ ?_ ?_ ?_ ?_ ?_ ?_ ?_ <;> simp (disch := omega) only [oi_l, oi_n, z_nI, nIA, nIM, nIS, nIlt, nIle, nIeq, nIC, vpI, Nat.add_sub_cancel, Nat.not_le, Nat.not_lt, Nat.not_lt_zero, Nat.le_refl, not_true_eq_false, not_false_eq_true, false_imp_iff, true_imp_iff, forall_const, implies_true, Nat.reduceEqDiff, Nat.reduceLeDiff, Nat.reduceLT, show ¬ v = 0 by omega, show ¬ v = 1 by omega, show ¬ v = 2 by omega, show ¬ v = 3 by omega]
          refine V92s (S1 _) ?_
          refine V158  (S1 _) ?_ ?_ ?_ ?_ ?_ ?_ ?_ ?_ ?_ ?_ ?_ ?_ ?_ ?_ ?_ ?_ ?_ ?_ ?_ <;> simp (disch := omega) only [oi_l, oi_n, z_nI, nIA, nIM, nIS, nIlt, nIle, nIeq, nIC, vpI, Nat.add_sub_cancel, Nat.not_le, Nat.not_lt, Nat.not_lt_zero, Nat.le_refl, not_true_eq_false, not_false_eq_true, false_imp_iff, true_imp_iff, forall_const, implies_true, Nat.reduceEqDiff, Nat.reduceLeDiff, Nat.reduceLT, zI_yI, va_upA, Nat.reduceEqDiff, ↓reduceIte, m16, m2, hc3, hk2, qm2, hv3] <;> (try omega)
          first | exact pfin I ((((Kp.rf.I0 0 _ rfl).I35 1 _ rfl).I35 0 _ rfl).I35 0 _ rfl) (by simp [zI_yI, va_upA]) | exact pfinT I ((((Kp.rf.I0 0 _ rfl).I35 1 _ rfl).I35 0 _ rfl).I35 0 _ rfl) (by simp [zI_yI, va_upA])
      · refine c21M hk S hq u3 (by omega) (V92pn S ?_)
        refine V158  (S1 _) ?_ ?_ ?_ ?_ ?_ ?_ ?_ ?_ ?_ ?_ ?_ ?_ ?_ ?_ ?_ ?_ ?_ ?_ ?_ <;> simp (disch := omega) only [oi_l, oi_n, z_nI, nIA, nIM, nIS, nIlt, nIle, nIeq, nIC, vpI, Nat.add_sub_cancel, Nat.not_le, Nat.not_lt, Nat.not_lt_zero, Nat.le_refl, not_true_eq_false, not_false_eq_true, false_imp_iff, true_imp_iff, forall_const, implies_true, Nat.reduceEqDiff, Nat.reduceLeDiff, Nat.reduceLT, zI_yI, va_upA, Nat.reduceEqDiff, ↓reduceIte, m16, m2, hc3, hk2, qm2] <;> (try omega)
        first | exact pfin I ((((Kp.rf.I0 0 _ rfl).I35 1 _ rfl).I35 0 _ rfl).I35 0 _ rfl) (by simp [zI_yI, va_upA]) | exact pfinT I ((((Kp.rf.I0 0 _ rfl).I35 1 _ rfl).I35 0 _ rfl).I35 0 _ rfl) (by simp [zI_yI, va_upA])
  · refine V92 S b2 hb.2.1 (c16M hc S hb bo (by omega) (V92n S ?_))
    refine V158  (S1 _) ?_ ?_ ?_ ?_ ?_ ?_ ?_ ?_ ?_ ?_ ?_ ?_ ?_ ?_ ?_ ?_ ?_ ?_ ?_ <;> simp (disch := omega) only [oi_l, oi_n, z_nI, nIA, nIM, nIS, nIlt, nIle, nIeq, nIC, vpI, Nat.add_sub_cancel, Nat.not_le, Nat.not_lt, Nat.not_lt_zero, Nat.le_refl, not_true_eq_false, not_false_eq_true, false_imp_iff, true_imp_iff, forall_const, implies_true, Nat.reduceEqDiff, Nat.reduceLeDiff, Nat.reduceLT, zI_yI, va_upA, Nat.reduceEqDiff, ↓reduceIte, m16, show B.2.length ≤ c by omega]
    first | exact pfin I ((((Kp.rf.I0 0 _ rfl).I35 1 _ rfl).I35 0 _ rfl).I35 0 _ rfl) (by simp [zI_yI, va_upA]) | exact pfinT I ((((Kp.rf.I0 0 _ rfl).I35 1 _ rfl).I35 0 _ rfl).I35 0 _ rfl) (by simp [zI_yI, va_upA])

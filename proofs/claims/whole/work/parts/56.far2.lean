theorem V174 {h : pm_H} {Q : Option Value → pm_H → Prop} {x1 : Int32} {x2 : Int32} {d3 : Option Value} {d4 : Option Value} {d5 : Option Value} (S : SK h) (k3 : (x1 < 0) → Q (some (.int (Int32.ofInt (-1)))) (yI (yI (yI h 35 1 (Int32.ofInt 0)) 35 0 (Int32.ofInt 0)) 35 0 (Int32.ofInt 1))) (k6 : (¬ x1 < 0) → ((zI h 35 15) ≤ x1) → Q (some (.int (Int32.ofInt (-1)))) (yI (yI (yI h 35 1 (Int32.ofInt 0)) 35 0 (Int32.ofInt 0)) 35 0 (Int32.ofInt 1))) (k10 : (¬ x1 < 0) → (¬ (zI h 35 15) ≤ x1) → (x2 < 0) → Q (some (.int (Int32.ofInt (-1)))) (yI (yI (yI h 35 1 (Int32.ofInt 0)) 35 0 (Int32.ofInt 0)) 35 0 (Int32.ofInt 1))) (k13 : (¬ x1 < 0) → (¬ (zI h 35 15) ≤ x1) → (¬ x2 < 0) → ((zI h 35 15) ≤ x2) → Q (some (.int (Int32.ofInt (-1)))) (yI (yI (yI h 35 1 (Int32.ofInt 0)) 35 0 (Int32.ofInt 0)) 35 0 (Int32.ofInt 1))) (k15 : (¬ x1 < 0) → (¬ (zI h 35 15) ≤ x1) → (¬ x2 < 0) → (¬ (zI h 35 15) ≤ x2) → WP 148 0 [some (.ref 35), some (.int x1), some (.int (Int32.ofInt 0)), none, none, none] [] (yI (yI h 35 1 (Int32.ofInt 0)) 35 0 (Int32.ofInt 0)) (fun v1 h1 => WP 174 38 [some (.ref 35), some (.int x1), some (.int x2), d3, d4, d5] (v1.toList ++ []) h1 Q)) : WP 174 0 [some (.ref 35), some (.int x1), some (.int x2), d3, d4, d5] [] h Q :=
  B174_0 (S.T 35) (B147_0 (fun c1 => B147_16 (B147_17 oi0 (B174_15 (fun _ => B174_26 (S.T 35) (B123_0 (S.T 35) (B174_31 (k3 c1)))) (fun q => absurd (by decide) q)))) (fun c1 => B147_4 (S.T 35) (fun c4 => B147_16 (B147_17 oi0 (B174_15 (fun _ => B174_26 (S.T 35) (B123_0 (S.T 35) (B174_31 (k6 c1 c4)))) (fun q => absurd (by decide) q)))) (fun c4 => B147_12 (B147_17 oi1 (B174_15 (fun q => absurd q (by decide)) (fun _ => B174_18 (S.T 35) (B147_0 (fun c8 => B147_16 (B147_17 oi0 (B174_23 (fun q => absurd (by decide) q) (fun _ => B174_26 (S.T 35) (B123_0 (S.T 35) (B174_31 (k10 c1 c4 c8))))))) (fun c8 => B147_4 (S.T 35) (fun c11 => B147_16 (B147_17 oi0 (B174_23 (fun q => absurd (by decide) q) (fun _ => B174_26 (S.T 35) (B123_0 (S.T 35) (B174_31 (k13 c1 c4 c8 c11))))))) (fun c11 => B147_12 (B147_17 oi1 (B174_23 (fun _ => B174_32 (S.T 35) (k15 c1 c4 c8 c11)) (fun q => absurd q (by decide)))))))))))))
theorem V174a {h : pm_H} {Q : Option Value → pm_H → Prop} {x1 : Int32} {x2 : Int32} {d3 : Option Value} {d4 : Option Value} {d5 : Option Value} (S : SK h) (k1 : WP 148 0 [some (.ref 35), some (.int x2), some (.int (Int32.ofInt 1)), none, none, none] [] h (fun v1 h1 => WP 174 44 [some (.ref 35), some (.int x1), some (.int x2), d3, d4, d5] (v1.toList ++ []) h1 Q)) : WP 174 38 [some (.ref 35), some (.int x1), some (.int x2), d3, d4, d5] [] h Q :=
  B174_38 (S.T 35) k1
theorem V174b {h : pm_H} {Q : Option Value → pm_H → Prop} {x1 : Int32} {x2 : Int32} {d3 : Option Value} {d4 : Option Value} {d5 : Option Value} (S : SK h) (g1 : vp_in (Int32.ofInt 0) 401) (k2 : WP 174 53 [some (.ref 35), some (.int x1), some (.int x2), some (.int (Int32.ofInt 0)), d4, d5] [] (yI h 67 ((Int32.ofInt 0)).toNatClampNeg (Int32.ofInt 0)) Q) : WP 174 44 [some (.ref 35), some (.int x1), some (.int x2), d3, d4, d5] [] h Q :=
  B174_44 (S.T 35) (S.R 35 54) ⟨(S.T 67), (S.bd 67 g1)⟩ (k2)
theorem V174L {h : pm_H} {Q : Option Value → pm_H → Prop} {x1 : Int32} {x2 : Int32} {d4 : Option Value} {d5 : Option Value} {j : Nat} (S : SK h) (g1 : vp_in (Int32.ofInt 1) 2) (k3 : ((zI h 65 ((Int32.ofInt 1)).toNatClampNeg) ≤ (nI j)) → WP 174 96 [some (.ref 35), some (.int x1), some (.int x2), some (.int (Int32.ofInt 0)), d4, d5] [] h Q) (g4 : (¬ (zI h 65 ((Int32.ofInt 1)).toNatClampNeg) ≤ (nI j)) → vp_in (nI j) 401) (g5 : (¬ (zI h 65 ((Int32.ofInt 1)).toNatClampNeg) ≤ (nI j)) → vp_in ((Int32.ofInt 400) + (nI j)) 800) (g6 : (¬ (zI h 65 ((Int32.ofInt 1)).toNatClampNeg) ≤ (nI j)) → vp_in ((nI j) + (Int32.ofInt 1)) 401) (k7 : (¬ (zI h 65 ((Int32.ofInt 1)).toNatClampNeg) ≤ (nI j)) → WP 174 53 [some (.ref 35), some (.int x1), some (.int x2), some (.int ((nI j) + (Int32.ofInt 1))), d4, d5] [] (yI h 67 (((nI j) + (Int32.ofInt 1))).toNatClampNeg ((zI h 67 ((nI j)).toNatClampNeg) + (zI h 64 (((Int32.ofInt 400) + (nI j))).toNatClampNeg))) Q) : WP 174 53 [some (.ref 35), some (.int x1), some (.int x2), some (.int (nI j)), d4, d5] [] h Q :=
  B174_53 (S.T 35) (S.R 35 52) ⟨(S.T 65), (S.bd 65 g1)⟩ (fun c2 => B174_94 (k3 c2)) (fun c2 => B174_63 (S.T 35) (S.R 35 54) ⟨(S.T 67), (S.bd 67 (g4 c2))⟩ (S.R 35 51) ⟨(S.T 64), (S.bd 64 (g5 c2))⟩ ⟨(S.T 67), (S.bd 67 (g6 c2))⟩ (k7 c2))
theorem V174M {h : pm_H} {Q : Option Value → pm_H → Prop} {x1 : Int32} {x2 : Int32} {d4 : Option Value} {d5 : Option Value} {i : Nat} (S : SK h) (g1 : vp_in (Int32.ofInt 0) 2) (g3 : ((zI h 65 ((Int32.ofInt 0)).toNatClampNeg) ≤ (nI i)) → vp_in (Int32.ofInt 1) 2) (g4 : ((zI h 65 ((Int32.ofInt 0)).toNatClampNeg) ≤ (nI i)) → vp_in (zI h 65 ((Int32.ofInt 1)).toNatClampNeg) 401) (k5 : ((zI h 65 ((Int32.ofInt 0)).toNatClampNeg) ≤ (nI i)) → Q (some (.int (zI h 67 ((zI h 65 ((Int32.ofInt 1)).toNatClampNeg)).toNatClampNeg))) h) (k6 : (¬ (zI h 65 ((Int32.ofInt 0)).toNatClampNeg) ≤ (nI i)) → WP 174 109 [some (.ref 35), some (.int x1), some (.int x2), some (.int (nI i)), some (.int (Int32.ofInt 0)), d5] [] h Q) : WP 174 96 [some (.ref 35), some (.int x1), some (.int x2), some (.int (nI i)), d4, d5] [] h Q :=
  B174_96 (S.T 35) (S.R 35 52) ⟨(S.T 65), (S.bd 65 g1)⟩ (fun c2 => B174_294 (S.T 35) (S.R 35 54) (S.R 35 52) ⟨(S.T 65), (S.bd 65 (g3 c2))⟩ ⟨(S.T 67), (S.bd 67 (g4 c2))⟩ (k5 c2)) (fun c2 => B174_106 (k6 c2))
theorem V174C {h : pm_H} {Q : Option Value → pm_H → Prop} {x1 : Int32} {x2 : Int32} {d5 : Option Value} {i : Nat} {j : Nat} (S : SK h) (g1 : vp_in (Int32.ofInt 1) 2) (g3 : ((zI h 65 ((Int32.ofInt 1)).toNatClampNeg) < (nI j)) → vp_in (Int32.ofInt 0) 401) (g4 : ((zI h 65 ((Int32.ofInt 1)).toNatClampNeg) < (nI j)) → vp_in (nI i) 800) (g5 : ((zI h 65 ((Int32.ofInt 1)).toNatClampNeg) < (nI j)) → vp_in (Int32.ofInt 0) 401) (k6 : ((zI h 65 ((Int32.ofInt 1)).toNatClampNeg) < (nI j)) → WP 174 162 [some (.ref 35), some (.int x1), some (.int x2), some (.int (nI i)), some (.int (Int32.ofInt 0)), d5] [] (yI h 67 ((Int32.ofInt 0)).toNatClampNeg ((zI h 66 ((Int32.ofInt 0)).toNatClampNeg) + (zI h 64 ((nI i)).toNatClampNeg))) Q) (g7 : (¬ (zI h 65 ((Int32.ofInt 1)).toNatClampNeg) < (nI j)) → vp_in (nI j) 401) (g8 : (¬ (zI h 65 ((Int32.ofInt 1)).toNatClampNeg) < (nI j)) → vp_in (nI j) 401) (k9 : (¬ (zI h 65 ((Int32.ofInt 1)).toNatClampNeg) < (nI j)) → WP 174 109 [some (.ref 35), some (.int x1), some (.int x2), some (.int (nI i)), some (.int ((nI j) + (Int32.ofInt 1))), d5] [] (yI h 66 ((nI j)).toNatClampNeg (zI h 67 ((nI j)).toNatClampNeg)) Q) : WP 174 109 [some (.ref 35), some (.int x1), some (.int x2), some (.int (nI i)), some (.int (nI j)), d5] [] h Q :=
  B174_109 (S.T 35) (S.R 35 52) ⟨(S.T 65), (S.bd 65 g1)⟩ (fun c2 => B174_140 (S.T 35) (S.R 35 54) (S.R 35 53) ⟨(S.T 66), (S.bd 66 (g3 c2))⟩ (S.R 35 51) ⟨(S.T 64), (S.bd 64 (g4 c2))⟩ ⟨(S.T 67), (S.bd 67 (g5 c2))⟩ (k6 c2)) (fun c2 => B174_120 (S.T 35) (S.R 35 53) (S.R 35 54) ⟨(S.T 67), (S.bd 67 (g7 c2))⟩ ⟨(S.T 66), (S.bd 66 (g8 c2))⟩ (k9 c2))
theorem V174R {h : pm_H} {Q : Option Value → pm_H → Prop} {x1 : Int32} {x2 : Int32} {d5 : Option Value} {i : Nat} {j : Nat} (S : SK h) (g1 : vp_in (Int32.ofInt 1) 2) (k3 : ((zI h 65 ((Int32.ofInt 1)).toNatClampNeg) ≤ (nI j)) → WP 174 96 [some (.ref 35), some (.int x1), some (.int x2), some (.int ((nI i) + (Int32.ofInt 1))), some (.int (nI j)), d5] [] h Q) (g4 : (¬ (zI h 65 ((Int32.ofInt 1)).toNatClampNeg) ≤ (nI j)) → vp_in (nI i) 800) (g5 : (¬ (zI h 65 ((Int32.ofInt 1)).toNatClampNeg) ≤ (nI j)) → vp_in ((Int32.ofInt 400) + (nI j)) 800) (g6 : (¬ (zI h 65 ((Int32.ofInt 1)).toNatClampNeg) ≤ (nI j)) → vp_in (nI i) 800) (g7 : (¬ (zI h 65 ((Int32.ofInt 1)).toNatClampNeg) ≤ (nI j)) → vp_in ((Int32.ofInt 400) + (nI j)) 800) (g9 : (¬ (zI h 65 ((Int32.ofInt 1)).toNatClampNeg) ≤ (nI j)) → ((zI h 63 ((nI i)).toNatClampNeg) = (zI h 63 (((Int32.ofInt 400) + (nI j))).toNatClampNeg)) → vp_in (nI j) 401) (g10 : (¬ (zI h 65 ((Int32.ofInt 1)).toNatClampNeg) ≤ (nI j)) → ((zI h 63 ((nI i)).toNatClampNeg) = (zI h 63 (((Int32.ofInt 400) + (nI j))).toNatClampNeg)) → vp_in ((nI j) + (Int32.ofInt 1)) 401) (g11 : (¬ (zI h 65 ((Int32.ofInt 1)).toNatClampNeg) ≤ (nI j)) → ((zI h 63 ((nI i)).toNatClampNeg) = (zI h 63 (((Int32.ofInt 400) + (nI j))).toNatClampNeg)) → vp_in (nI i) 800) (g12 : (¬ (zI h 65 ((Int32.ofInt 1)).toNatClampNeg) ≤ (nI j)) → ((zI h 63 ((nI i)).toNatClampNeg) = (zI h 63 (((Int32.ofInt 400) + (nI j))).toNatClampNeg)) → vp_in (nI j) 401) (g13 : (¬ (zI h 65 ((Int32.ofInt 1)).toNatClampNeg) ≤ (nI j)) → ((zI h 63 ((nI i)).toNatClampNeg) = (zI h 63 (((Int32.ofInt 400) + (nI j))).toNatClampNeg)) → vp_in ((Int32.ofInt 400) + (nI j)) 800) (g14 : (¬ (zI h 65 ((Int32.ofInt 1)).toNatClampNeg) ≤ (nI j)) → ((zI h 63 ((nI i)).toNatClampNeg) = (zI h 63 (((Int32.ofInt 400) + (nI j))).toNatClampNeg)) → vp_in ((nI j) + (Int32.ofInt 1)) 401) (k15 : (¬ (zI h 65 ((Int32.ofInt 1)).toNatClampNeg) ≤ (nI j)) → ((zI h 63 ((nI i)).toNatClampNeg) = (zI h 63 (((Int32.ofInt 400) + (nI j))).toNatClampNeg)) → WP 174 162 [some (.ref 35), some (.int x1), some (.int x2), some (.int (nI i)), some (.int ((nI j) + (Int32.ofInt 1))), some (.int ((absI ((zI h 64 ((nI i)).toNatClampNeg) - (zI h 64 (((Int32.ofInt 400) + (nI j))).toNatClampNeg))) + (Int32.ofInt 0)))] [] (yI h 67 (((nI j) + (Int32.ofInt 1))).toNatClampNeg (mnI ((zI h 66 ((nI j)).toNatClampNeg) + ((absI ((zI h 64 ((nI i)).toNatClampNeg) - (zI h 64 (((Int32.ofInt 400) + (nI j))).toNatClampNeg))) + (Int32.ofInt 0))) (mnI ((zI h 66 (((nI j) + (Int32.ofInt 1))).toNatClampNeg) + (zI h 64 ((nI i)).toNatClampNeg)) ((zI h 67 ((nI j)).toNatClampNeg) + (zI h 64 (((Int32.ofInt 400) + (nI j))).toNatClampNeg))))) Q) (g16 : (¬ (zI h 65 ((Int32.ofInt 1)).toNatClampNeg) ≤ (nI j)) → (¬ (zI h 63 ((nI i)).toNatClampNeg) = (zI h 63 (((Int32.ofInt 400) + (nI j))).toNatClampNeg)) → vp_in (nI j) 401) (g17 : (¬ (zI h 65 ((Int32.ofInt 1)).toNatClampNeg) ≤ (nI j)) → (¬ (zI h 63 ((nI i)).toNatClampNeg) = (zI h 63 (((Int32.ofInt 400) + (nI j))).toNatClampNeg)) → vp_in ((nI j) + (Int32.ofInt 1)) 401) (g18 : (¬ (zI h 65 ((Int32.ofInt 1)).toNatClampNeg) ≤ (nI j)) → (¬ (zI h 63 ((nI i)).toNatClampNeg) = (zI h 63 (((Int32.ofInt 400) + (nI j))).toNatClampNeg)) → vp_in (nI i) 800) (g19 : (¬ (zI h 65 ((Int32.ofInt 1)).toNatClampNeg) ≤ (nI j)) → (¬ (zI h 63 ((nI i)).toNatClampNeg) = (zI h 63 (((Int32.ofInt 400) + (nI j))).toNatClampNeg)) → vp_in (nI j) 401) (g20 : (¬ (zI h 65 ((Int32.ofInt 1)).toNatClampNeg) ≤ (nI j)) → (¬ (zI h 63 ((nI i)).toNatClampNeg) = (zI h 63 (((Int32.ofInt 400) + (nI j))).toNatClampNeg)) → vp_in ((Int32.ofInt 400) + (nI j)) 800) (g21 : (¬ (zI h 65 ((Int32.ofInt 1)).toNatClampNeg) ≤ (nI j)) → (¬ (zI h 63 ((nI i)).toNatClampNeg) = (zI h 63 (((Int32.ofInt 400) + (nI j))).toNatClampNeg)) → vp_in ((nI j) + (Int32.ofInt 1)) 401) (k22 : (¬ (zI h 65 ((Int32.ofInt 1)).toNatClampNeg) ≤ (nI j)) → (¬ (zI h 63 ((nI i)).toNatClampNeg) = (zI h 63 (((Int32.ofInt 400) + (nI j))).toNatClampNeg)) → WP 174 162 [some (.ref 35), some (.int x1), some (.int x2), some (.int (nI i)), some (.int ((nI j) + (Int32.ofInt 1))), some (.int ((absI ((zI h 64 ((nI i)).toNatClampNeg) - (zI h 64 (((Int32.ofInt 400) + (nI j))).toNatClampNeg))) + (Int32.ofInt 5)))] [] (yI h 67 (((nI j) + (Int32.ofInt 1))).toNatClampNeg (mnI ((zI h 66 ((nI j)).toNatClampNeg) + ((absI ((zI h 64 ((nI i)).toNatClampNeg) - (zI h 64 (((Int32.ofInt 400) + (nI j))).toNatClampNeg))) + (Int32.ofInt 5))) (mnI ((zI h 66 (((nI j) + (Int32.ofInt 1))).toNatClampNeg) + (zI h 64 ((nI i)).toNatClampNeg)) ((zI h 67 ((nI j)).toNatClampNeg) + (zI h 64 (((Int32.ofInt 400) + (nI j))).toNatClampNeg))))) Q) : WP 174 162 [some (.ref 35), some (.int x1), some (.int x2), some (.int (nI i)), some (.int (nI j)), d5] [] h Q :=
  B174_162 (S.T 35) (S.R 35 52) ⟨(S.T 65), (S.bd 65 g1)⟩ (fun c2 => B174_288 (k3 c2)) (fun c2 => B174_173 (S.T 35) (S.R 35 51) ⟨(S.T 64), (S.bd 64 (g4 c2))⟩ ⟨(S.T 64), (S.bd 64 (g5 c2))⟩ (S.R 35 50) ⟨(S.T 63), (S.bd 63 (g6 c2))⟩ ⟨(S.T 63), (S.bd 63 (g7 c2))⟩ (fun c8 => B174_218 (B174_219 (S.T 35) (S.R 35 54) (S.R 35 53) ⟨(S.T 66), (S.bd 66 (g9 c2 c8))⟩ ⟨(S.T 66), (S.bd 66 (g10 c2 c8))⟩ (S.R 35 51) ⟨(S.T 64), (S.bd 64 (g11 c2 c8))⟩ ⟨(S.T 67), (S.bd 67 (g12 c2 c8))⟩ ⟨(S.T 64), (S.bd 64 (g13 c2 c8))⟩ ⟨(S.T 67), (S.bd 67 (g14 c2 c8))⟩ (k15 c2 c8))) (fun c8 => B174_214 (B174_219 (S.T 35) (S.R 35 54) (S.R 35 53) ⟨(S.T 66), (S.bd 66 (g16 c2 c8))⟩ ⟨(S.T 66), (S.bd 66 (g17 c2 c8))⟩ (S.R 35 51) ⟨(S.T 64), (S.bd 64 (g18 c2 c8))⟩ ⟨(S.T 67), (S.bd 67 (g19 c2 c8))⟩ ⟨(S.T 64), (S.bd 64 (g20 c2 c8))⟩ ⟨(S.T 67), (S.bd 67 (g21 c2 c8))⟩ (k22 c2 c8))))
theorem V103 {h : pm_H} {Q : Option Value → pm_H → Prop} {x1 : Int32} {x2 : Int32} {d3 : Option Value} {d4 : Option Value} {b1 : Nat} (S : SK h) (e2 : zR h 0 2 = some b1) (t3 : zT h b1 = 2) (k4 : WP 15 0 [some (.ref b1), some (.int x1)] [] h (fun v1 h1 => WP 103 8 [some (.ref 0), some (.int x1), some (.int x2), d3, d4] (v1.toList ++ []) h1 Q)) : WP 103 0 [some (.ref 0), some (.int x1), some (.int x2), d3, d4] [] h Q :=
  B103_0 (S.T 0) e2 t3 k4
theorem V103a {h : pm_H} {Q : Option Value → pm_H → Prop} {x1 : Int32} {x2 : Int32} {p : Nat} {d3 : Option Value} {d4 : Option Value} {b1 : Nat} (S : SK h) (e2 : zR h 0 2 = some b1) (t3 : zT h b1 = 2) (k4 : WP 15 0 [some (.ref b1), some (.int x2)] [] h (fun v1 h1 => WP 103 17 [some (.ref 0), some (.int x1), some (.int x2), some (.ref p), d4] (v1.toList ++ []) h1 Q)) : WP 103 8 [some (.ref 0), some (.int x1), some (.int x2), d3, d4] [.ref p] h Q :=
  B103_8 (S.T 0) e2 t3 k4
theorem V103b {h : pm_H} {Q : Option Value → pm_H → Prop} {x1 : Int32} {x2 : Int32} {p : Nat} {r : Nat} {d4 : Option Value} (S : SK h) (k1 : WP 119 0 [some (.ref 0), some (.ref p), some (.ref r), none, none] [] h (fun v1 h1 => WP 103 42 [some (.ref 0), some (.int x1), some (.int x2), some (.ref p), some (.ref r)] (v1.toList ++ [.ref 0]) h1 Q)) : WP 103 17 [some (.ref 0), some (.int x1), some (.int x2), some (.ref p), d4] [.ref r] h Q :=
  B103_17 (B103_23 (B103_34 (S.T 0) k1))
theorem V103n {h : pm_H} {Q : Option Value → pm_H → Prop} {x1 : Int32} {x2 : Int32} {r : Nat} {d4 : Option Value} (S : SK h) (k1 : Q (some (.int (Int32.ofInt (-1)))) (yI h 0 0 (Int32.ofInt 1))) : WP 103 17 [some (.ref 0), some (.int x1), some (.int x2), some (.null), d4] [.ref r] h Q :=
  B103_17n (B103_28 (S.T 0) (B107_0 (S.T 0) (B103_33 k1)))
theorem V103r {h : pm_H} {Q : Option Value → pm_H → Prop} {x1 : Int32} {x2 : Int32} {p : Nat} {r : Nat} {x4 : Int32} (S : SK h) (k1 : Q (some (.int x4)) (yI h 0 0 (Int32.ofInt 0))) : WP 103 42 [some (.ref 0), some (.int x1), some (.int x2), some (.ref p), some (.ref r)] [.int x4, .ref 0] h Q :=
  B103_42 (S.T 0) (B106_0 (S.T 0) (B103_45 k1))
theorem V103an {h : pm_H} {Q : Option Value → pm_H → Prop} {x1 x2 : Int32} {d3 d4 : Option Value} {b2 : Nat} (S : SK h) (e3 : zR h 0 2 = some b2) (g4 : zT h b2 = 2) (k : WP 15 0 [some (.ref b2), some (.int x2)] [] h (fun v1 h1 => WP 103 17 [some (.ref 0), some (.int x1), some (.int x2), some .null, d4] (v1.toList ++ []) h1 Q)) : WP 103 8 [some (.ref 0), some (.int x1), some (.int x2), d3, d4] [.null] h Q :=
  WP.nx rfl (WP.nx rfl (WP.gd rfl (S.T 0) (WP.top (congrArg va_rf e3) (WP.nx rfl (WP.cl rfl g4 k)))))
theorem V103bn {h : pm_H} {Q : Option Value → pm_H → Prop} {x1 x2 : Int32} {p : Nat} {d4 : Option Value} (S : SK h) (k : Q (some (.int (Int32.ofInt (-1)))) (yI h 0 0 (Int32.ofInt 1))) : WP 103 17 [some (.ref 0), some (.int x1), some (.int x2), some (.ref p), d4] [.null] h Q :=
  WP.nx rfl (WP.nx rfl (WP.nx rfl (B103_23n (B103_28 (S.T 0) (B107_0 (S.T 0) (B103_33 k))))))
theorem V103nn {h : pm_H} {Q : Option Value → pm_H → Prop} {x1 x2 : Int32} {d4 : Option Value} (S : SK h) (k : Q (some (.int (Int32.ofInt (-1)))) (yI h 0 0 (Int32.ofInt 1))) : WP 103 17 [some (.ref 0), some (.int x1), some (.int x2), some .null, d4] [.null] h Q :=
  WP.nx rfl (WP.nx rfl (WP.nx rfl (B103_28 (S.T 0) (B107_0 (S.T 0) (B103_33 k)))))
section FAR2
variable {h : pm_H} {Q : Option Value → pm_H → Prop}
/-- the model's table, once the blocks are told -/
theorem m174 {l1 l2 : List Nat} {x1 x2 : Int32} {d3 d4 d5 : Option Value} (S : SK h) (ok1 : okS l1) (ok2 : okS l2) (b1 : BL h 0 l1) (b2 : BL h 1 l2) (e0 : zI h 65 0 = nI (bkn l1)) (e1 : zI h 65 1 = nI (bkn l2)) (k0 : ∀ g, Same [66, 67] h g → Q (some (.int (fA l1 l2 (bkn l1) (bkn l2)))) g) : WP 174 44 [some (.ref 35), some (.int x1), some (.int x2), d3, d4, d5] [] h Q := by
  obtain ⟨a1, a2, a3, a4, a5⟩ := bk_al ok2.1
  obtain ⟨c1, c2, c3, c4, c5⟩ := bk_al ok1.1
  have L2 := ok2.2.1
  have L1 := ok1.2.1
  have B1 : ∀ g, Same [66, 67] h g → ∀ i, i < bkn l1 → zI g 63 i = nI (bkc l1 i) ∧ zI g 64 i = nI (bkm l1 i) := fun g sg i hi => by
    have := b1 i hi
    rw [Nat.mul_zero, Nat.zero_add] at this
    rw [sg.1 63 (by decide), sg.1 64 (by decide)]; exact this
  have B2 : ∀ g, Same [66, 67] h g → ∀ i, i < bkn l2 → zI g 63 (400 + i) = nI (bkc l2 i) ∧ zI g 64 (400 + i) = nI (bkm l2 i) := fun g sg i hi => by
    have := b2 i hi
    rw [Nat.mul_one] at this
    rw [sg.1 63 (by decide), sg.1 64 (by decide)]; exact this
  have hb1 : ∀ j, bkc l1 j < 8 := fun j => ok1.2.2 _
  have hb2 : ∀ j, bkc l2 j < 8 := fun j => ok2.2.2 _
  have M : ∀ m i (g : pm_H) (d4 d5 : Option Value), i + m = bkn l1 → Same [66, 67] h g → (∀ t, t ≤ bkn l2 → zI g 67 t = fA l1 l2 i t) → WP 174 96 [some (.ref 35), some (.int x1), some (.int x2), some (.int (nI i)), d4, d5] [] g Q := by
    intro m
    induction m with
    | zero =>
      intro i g d4 d5 hi sg f
      have S' := sg.SK S
      obtain rfl : i = bkn l1 := by omega
      have e := f _ (Nat.le_refl _)
      have e0' : zI g 65 0 = nI (bkn l1) := by rw [sg.1 65 (by decide)]; exact e0
      have e1' : zI g 65 1 = nI (bkn l2) := by rw [sg.1 65 (by decide)]; exact e1
      refine V174M  S' ?_ ?_ ?_ ?_ ?_ <;> simp (disch := omega) only [oi_l, oi_n, z_nI, nIA, nIM, nIS, nIlt, nIle, nIeq, nIC, vpI, Nat.add_sub_cancel, Nat.not_le, Nat.not_lt, Nat.not_lt_zero, Nat.le_refl, not_true_eq_false, not_false_eq_true, false_imp_iff, true_imp_iff, forall_const, implies_true, Nat.reduceEqDiff, Nat.reduceLeDiff, Nat.reduceLT, e0', e1', e] <;> first | omega | exact k0 g sg
    | succ m ih =>
      intro i g d4 d5 hi sg f
      have R : ∀ m j (g : pm_H) (d5 : Option Value), j + m = bkn l2 → Same [66, 67] h g → (∀ t, t ≤ bkn l2 → zI g 66 t = fA l1 l2 i t) → (∀ t, t ≤ j → zI g 67 t = fA l1 l2 (i + 1) t) → WP 174 162 [some (.ref 35), some (.int x1), some (.int x2), some (.int (nI i)), some (.int (nI j)), d5] [] g Q := by
        intro m'
        induction m' with
        | zero =>
          intro j g d5 hj sg f1 f2
          have S' := sg.SK S
          obtain rfl : j = bkn l2 := by omega
          have e1' : zI g 65 1 = nI (bkn l2) := by rw [sg.1 65 (by decide)]; exact e1
          have M' := ih (i + 1) g (some (.int (nI (bkn l2)))) d5 (by omega) sg f2
          refine V174R  S' ?_ ?_ ?_ ?_ ?_ ?_ ?_ ?_ ?_ ?_ ?_ ?_ ?_ ?_ ?_ ?_ ?_ ?_ ?_ ?_ <;> simp (disch := omega) only [oi_l, oi_n, z_nI, nIA, nIM, nIS, nIlt, nIle, nIeq, nIC, vpI, Nat.add_sub_cancel, Nat.not_le, Nat.not_lt, Nat.not_lt_zero, Nat.le_refl, not_true_eq_false, not_false_eq_true, false_imp_iff, true_imp_iff, forall_const, implies_true, Nat.reduceEqDiff, Nat.reduceLeDiff, Nat.reduceLT, e1'] <;> first | omega | exact M'
        | succ m' ih' =>
          intro j g d5 hj sg f1 f2
          have S' := sg.SK S
          have e1' : zI g 65 1 = nI (bkn l2) := by rw [sg.1 65 (by decide)]; exact e1
          obtain ⟨g1, g2⟩ := B1 g sg i (by omega)
          obtain ⟨g3, g4⟩ := B2 g sg j (by omega)
          have y1 := f1 j (by omega)
          have y2 := f1 (j + 1) (by omega)
          have y3 := f2 j (Nat.le_refl _)
          have z1 := hb1 i
          have z2 := hb2 j
          have key : ∀ v, v = fA l1 l2 (i + 1) (j + 1) → ∀ d5, WP 174 162 [some (.ref 35), some (.int x1), some (.int x2), some (.int (nI i)), some (.int (nI (j + 1))), d5] [] (yI g 67 (j + 1) v) Q := by
            intro v hv d5
            refine ih' (j + 1) _ d5 (by omega) (sg.I 67 _ _ (by decide)) (fun t ht => ?_) (fun t ht => ?_)
            · simp only [zI_yI, if_false, Nat.reduceEqDiff]; exact f1 t ht
            · simp only [zI_yI, va_upA, if_true]
              by_cases ht' : t = j + 1
              · rw [if_pos ht', ht', hv]
              · rw [if_neg ht']; exact f2 t (by omega)
          by_cases hc : bkc l1 i = bkc l2 j
          · refine V174R  S' ?_ ?_ ?_ ?_ ?_ ?_ ?_ ?_ ?_ ?_ ?_ ?_ ?_ ?_ ?_ ?_ ?_ ?_ ?_ ?_ <;> simp (disch := omega) only [oi_l, oi_n, z_nI, nIA, nIM, nIS, nIlt, nIle, nIeq, nIC, vpI, Nat.add_sub_cancel, Nat.not_le, Nat.not_lt, Nat.not_lt_zero, Nat.le_refl, not_true_eq_false, not_false_eq_true, false_imp_iff, true_imp_iff, forall_const, implies_true, Nat.reduceEqDiff, Nat.reduceLeDiff, Nat.reduceLT, e1', g1, g2, g3, g4, y1, y2, y3, eq_true hc, show ¬ bkn l2 ≤ j by omega] <;> (try omega)
            refine key _ ?_ _
            show _ = mnI (fA l1 l2 i j + fT l1 l2 i j) (mnI (fA l1 l2 i (j + 1) + nI (bkm l1 i)) (fA l1 l2 (i + 1) j + nI (bkm l2 j)))
            unfold fT
            rw [if_pos hc]
          · refine V174R  S' ?_ ?_ ?_ ?_ ?_ ?_ ?_ ?_ ?_ ?_ ?_ ?_ ?_ ?_ ?_ ?_ ?_ ?_ ?_ ?_ <;> simp (disch := omega) only [oi_l, oi_n, z_nI, nIA, nIM, nIS, nIlt, nIle, nIeq, nIC, vpI, Nat.add_sub_cancel, Nat.not_le, Nat.not_lt, Nat.not_lt_zero, Nat.le_refl, not_true_eq_false, not_false_eq_true, false_imp_iff, true_imp_iff, forall_const, implies_true, Nat.reduceEqDiff, Nat.reduceLeDiff, Nat.reduceLT, e1', g1, g2, g3, g4, y1, y2, y3, hc, show ¬ bkn l2 ≤ j by omega] <;> (try omega)
            refine key _ ?_ _
            show _ = mnI (fA l1 l2 i j + fT l1 l2 i j) (mnI (fA l1 l2 i (j + 1) + nI (bkm l1 i)) (fA l1 l2 (i + 1) j + nI (bkm l2 j)))
            unfold fT
            rw [if_neg hc]
      have C : ∀ m j (g : pm_H) (d5 : Option Value), j + m = bkn l2 + 1 → Same [66, 67] h g → (∀ t, t ≤ bkn l2 → zI g 67 t = fA l1 l2 i t) → (∀ t, t < j → zI g 66 t = fA l1 l2 i t) → WP 174 109 [some (.ref 35), some (.int x1), some (.int x2), some (.int (nI i)), some (.int (nI j)), d5] [] g Q := by
        intro m'
        induction m' with
        | zero =>
          intro j g d5 hj sg f1 f2
          have S' := sg.SK S
          obtain rfl : j = bkn l2 + 1 := by omega
          have e1' : zI g 65 1 = nI (bkn l2) := by rw [sg.1 65 (by decide)]; exact e1
          obtain ⟨g1, g2⟩ := B1 g sg i (by omega)
          have y0 := f2 0 (by omega)
          refine V174C  S' ?_ ?_ ?_ ?_ ?_ ?_ ?_ ?_ <;> simp (disch := omega) only [oi_l, oi_n, z_nI, nIA, nIM, nIS, nIlt, nIle, nIeq, nIC, vpI, Nat.add_sub_cancel, Nat.not_le, Nat.not_lt, Nat.not_lt_zero, Nat.le_refl, not_true_eq_false, not_false_eq_true, false_imp_iff, true_imp_iff, forall_const, implies_true, Nat.reduceEqDiff, Nat.reduceLeDiff, Nat.reduceLT, e1', g2, y0, show bkn l2 < bkn l2 + 1 by omega] <;> (try omega)
          refine R _ 0 _ d5 (Nat.zero_add _) (sg.I 67 _ _ (by decide)) (fun t ht => ?_) (fun t ht => ?_)
          · simp only [zI_yI, if_false, Nat.reduceEqDiff]; exact f2 t (by omega)
          · obtain rfl : t = 0 := by omega
            simp only [zI_yI, va_upA, if_true]
            rfl
        | succ m' ih' =>
          intro j g d5 hj sg f1 f2
          have S' := sg.SK S
          have e1' : zI g 65 1 = nI (bkn l2) := by rw [sg.1 65 (by decide)]; exact e1
          have y0 := f1 j (by omega)
          refine V174C  S' ?_ ?_ ?_ ?_ ?_ ?_ ?_ ?_ <;> simp (disch := omega) only [oi_l, oi_n, z_nI, nIA, nIM, nIS, nIlt, nIle, nIeq, nIC, vpI, Nat.add_sub_cancel, Nat.not_le, Nat.not_lt, Nat.not_lt_zero, Nat.le_refl, not_true_eq_false, not_false_eq_true, false_imp_iff, true_imp_iff, forall_const, implies_true, Nat.reduceEqDiff, Nat.reduceLeDiff, Nat.reduceLT, e1', y0, show ¬ bkn l2 < j by omega] <;> (try omega)
          refine ih' (j + 1) _ d5 (by omega) (sg.I 66 _ _ (by decide)) (fun t ht => ?_) (fun t ht => ?_)
          · simp only [zI_yI, if_false, Nat.reduceEqDiff]; exact f1 t (by omega)
          · simp only [zI_yI, va_upA, if_true]
            by_cases ht' : t = j
            · rw [if_pos ht', ht']
            · rw [if_neg ht']; exact f2 t (by omega)
      have S' := sg.SK S
      have e0' : zI g 65 0 = nI (bkn l1) := by rw [sg.1 65 (by decide)]; exact e0
      have C' := C _ 0 g d5 (Nat.zero_add _) sg f (fun t ht => absurd ht (Nat.not_lt_zero _))
      refine V174M  S' ?_ ?_ ?_ ?_ ?_ <;> simp (disch := omega) only [oi_l, oi_n, z_nI, nIA, nIM, nIS, nIlt, nIle, nIeq, nIC, vpI, Nat.add_sub_cancel, Nat.not_le, Nat.not_lt, Nat.not_lt_zero, Nat.le_refl, not_true_eq_false, not_false_eq_true, false_imp_iff, true_imp_iff, forall_const, implies_true, Nat.reduceEqDiff, Nat.reduceLeDiff, Nat.reduceLT, e0', show ¬ bkn l1 ≤ i by omega] <;> first | omega | exact C'
  have L : ∀ m j (g : pm_H) (d4 d5 : Option Value), j + m = bkn l2 → Same [66, 67] h g → (∀ t, t ≤ j → zI g 67 t = fA l1 l2 0 t) → WP 174 53 [some (.ref 35), some (.int x1), some (.int x2), some (.int (nI j)), d4, d5] [] g Q := by
    intro m
    induction m with
    | zero =>
      intro j g d4 d5 hj sg f
      have S' := sg.SK S
      obtain rfl : j = bkn l2 := by omega
      have e1' : zI g 65 1 = nI (bkn l2) := by rw [sg.1 65 (by decide)]; exact e1
      have M' := M _ 0 g d4 d5 (Nat.zero_add _) sg f
      refine V174L  S' ?_ ?_ ?_ ?_ ?_ ?_ <;> simp (disch := omega) only [oi_l, oi_n, z_nI, nIA, nIM, nIS, nIlt, nIle, nIeq, nIC, vpI, Nat.add_sub_cancel, Nat.not_le, Nat.not_lt, Nat.not_lt_zero, Nat.le_refl, not_true_eq_false, not_false_eq_true, false_imp_iff, true_imp_iff, forall_const, implies_true, Nat.reduceEqDiff, Nat.reduceLeDiff, Nat.reduceLT, e1'] <;> first | omega | exact M'
    | succ m ih =>
      intro j g d4 d5 hj sg f
      have S' := sg.SK S
      have e1' : zI g 65 1 = nI (bkn l2) := by rw [sg.1 65 (by decide)]; exact e1
      have e := f j (Nat.le_refl _)
      obtain ⟨g3, g4⟩ := B2 g sg j (by omega)
      refine V174L  S' ?_ ?_ ?_ ?_ ?_ ?_ <;> simp (disch := omega) only [oi_l, oi_n, z_nI, nIA, nIM, nIS, nIlt, nIle, nIeq, nIC, vpI, Nat.add_sub_cancel, Nat.not_le, Nat.not_lt, Nat.not_lt_zero, Nat.le_refl, not_true_eq_false, not_false_eq_true, false_imp_iff, true_imp_iff, forall_const, implies_true, Nat.reduceEqDiff, Nat.reduceLeDiff, Nat.reduceLT, e1', e, g4, show ¬ bkn l2 ≤ j by omega] <;> (try omega)
      refine ih (j + 1) _ d4 d5 (by omega) (sg.I 67 _ _ (by decide)) (fun t ht => ?_)
      simp only [zI_yI, va_upA, if_true]
      by_cases ht' : t = j + 1
      · rw [if_pos ht', ht']; rfl
      · rw [if_neg ht']; exact f t (by omega)
  refine V174b  S ?_ ?_ <;> simp (disch := omega) only [oi_l, oi_n, z_nI, nIA, nIM, nIS, nIlt, nIle, nIeq, nIC, vpI, Nat.add_sub_cancel, Nat.not_le, Nat.not_lt, Nat.not_lt_zero, Nat.le_refl, not_true_eq_false, not_false_eq_true, false_imp_iff, true_imp_iff, forall_const, implies_true, Nat.reduceEqDiff, Nat.reduceLeDiff, Nat.reduceLT] <;> (try omega)
  refine L _ 0 _ d4 d5 (Nat.zero_add _) (Same.rf.I 67 _ _ (by decide)) (fun t ht => ?_)
  obtain rfl : t = 0 := by omega
  simp only [zI_yI, va_upA, if_true]
  rfl
end FAR2
/-- FAR -/
theorem p_far {h : pm_H} {x1 x2 : Int32} (I : INV h) : PAIR 103 174 [.int x1, .int x2] h := by
  obtain ⟨S, n1, i1, i2, i3, i4, i5, B, bo, ⟨b, b2, hb⟩, b3⟩ := id I
  have m := MB.of b3
  have hl := bo.1
  have m15 := m.1
  have S1 : ∀ v, SK (yI h 0 0 v) := fun v => ((Kp.rf.I0 0 _ rfl) : Kp false h _).SK S
  rcases i32c x1 with hx | ⟨s, hs, rfl⟩
  · refine V103 S b2 hb.2.1 (c15N S hb bo hx (V103an S b2 hb.2.1 ?_))
    have fin : WP 174 0 [some (.ref 35), some (.int x1), some (.int x2), none, none, none] [] (yI h 0 0 (Int32.ofInt 1)) (fun v2 h2 => some (Value.int (Int32.ofInt (-1))) = v2 ∧ INV h2 ∧ (∃ x, some (Value.int (Int32.ofInt (-1))) = some (Value.int x)) ∧ zn h2 ≤ zn h + 200 ∧ zk h2 ≤ zk h + 14000) := by
      refine V174  (S1 _) ?_ ?_ ?_ ?_ ?_ <;> simp (disch := omega) only [oi_l, oi_n, z_nI, nIA, nIM, nIS, nIlt, nIle, nIeq, nIC, vpI, Nat.add_sub_cancel, Nat.not_le, Nat.not_lt, Nat.not_lt_zero, Nat.le_refl, not_true_eq_false, not_false_eq_true, false_imp_iff, true_imp_iff, forall_const, implies_true, Nat.reduceEqDiff, Nat.reduceLeDiff, Nat.reduceLT, zI_yI, va_upA, Nat.reduceEqDiff, ↓reduceIte, ngLt hx]
      first | exact pfin I ((((Kp.rf.I0 0 _ rfl).I35 1 _ rfl).I35 0 _ rfl).I35 0 _ rfl) (by simp [zI_yI, va_upA]) | exact pfinT I ((((Kp.rf.I0 0 _ rfl).I35 1 _ rfl).I35 0 _ rfl).I35 0 _ rfl) (by simp [zI_yI, va_upA])
    rcases i32c x2 with hy | ⟨t, ht, rfl⟩
    · exact c15N S hb bo hy (V103nn S fin)
    · by_cases ht2 : t < B.1.length
      · exact c15S S hb bo ht2 (fun r hr => V103n S fin)
      · exact c15M ht S hb bo (by omega) (V103nn S fin)
  by_cases hs2 : s < B.1.length
  · have hs3 : ¬ B.1.length ≤ s := by omega
    refine V103 S b2 hb.2.1 (c15S S hb bo hs2 (fun p hp => V103a S b2 hb.2.1 ?_))
    rcases i32c x2 with hy | ⟨t, ht, rfl⟩
    · refine c15N S hb bo hy (V103bn S ?_)
      refine V174  (S1 _) ?_ ?_ ?_ ?_ ?_ <;> simp (disch := omega) only [oi_l, oi_n, z_nI, nIA, nIM, nIS, nIlt, nIle, nIeq, nIC, vpI, Nat.add_sub_cancel, Nat.not_le, Nat.not_lt, Nat.not_lt_zero, Nat.le_refl, not_true_eq_false, not_false_eq_true, false_imp_iff, true_imp_iff, forall_const, implies_true, Nat.reduceEqDiff, Nat.reduceLeDiff, Nat.reduceLT, zI_yI, va_upA, Nat.reduceEqDiff, ↓reduceIte, m15, hs3, ngLt hy]
      first | exact pfin I ((((Kp.rf.I0 0 _ rfl).I35 1 _ rfl).I35 0 _ rfl).I35 0 _ rfl) (by simp [zI_yI, va_upA]) | exact pfinT I ((((Kp.rf.I0 0 _ rfl).I35 1 _ rfl).I35 0 _ rfl).I35 0 _ rfl) (by simp [zI_yI, va_upA])
    · by_cases ht2 : t < B.1.length
      · have ht3 : ¬ B.1.length ≤ t := by omega
        refine c15S S hb bo ht2 (fun r hr => V103b S ?_)
        rw [← stLe hs2] at hp
        rw [← stLe ht2] at hr
        obtain ⟨ok1, -⟩ := bk_st bo hs2
        obtain ⟨ok2, -⟩ := bk_st bo ht2
        obtain ⟨-, v1, v2⟩ := m.2.2.1 s hs2
        obtain ⟨-, w1, w2⟩ := m.2.2.1 t ht2
        refine c119 S hp hr ok1 ok2 (fun g sg => V103r (sg.SK S) ?_)
        have K1 : Kp false h g := Kp.of sg rfl
        have S2 : ∀ v, SK (yI g 0 0 v) := fun v => ((K1.I0 0 _ rfl) : Kp false h _).SK S
        refine V174  (S2 _) ?_ ?_ ?_ ?_ ?_ <;> simp (disch := omega) only [oi_l, oi_n, z_nI, nIA, nIM, nIS, nIlt, nIle, nIeq, nIC, vpI, Nat.add_sub_cancel, Nat.not_le, Nat.not_lt, Nat.not_lt_zero, Nat.le_refl, not_true_eq_false, not_false_eq_true, false_imp_iff, true_imp_iff, forall_const, implies_true, Nat.reduceEqDiff, Nat.reduceLeDiff, Nat.reduceLT, zI_yI, va_upA, Nat.reduceEqDiff, ↓reduceIte, K1.2.2.1 15 rfl, m15, hs3, ht3]
        have K : Kp false h (yI (yI (yI g 0 0 (nI 0)) 35 1 (nI 0)) 35 0 (nI 0)) := (((K1.I0 0 _ rfl).I35 1 _ rfl).I35 0 _ rfl)
        refine c148 (w := 0) (l := (stL B s).2) (K.SK S) ok1.2.1 ok1.1 (by omega) (by omega) ok1.2.2 (by rw [K.r 38]; exact v1) (by rw [K.r 45]; exact v2) (fun g2 s2 bl blf e65 => ?_)
        have K2 : Kp false h g2 := K.tr (Kp.of s2 rfl)
        refine V174a (K2.SK S) ?_
        refine c148 (w := 1) (l := (stL B t).2) (K2.SK S) ok2.2.1 ok2.1 (by omega) (by omega) ok2.2.2 (by rw [K2.r 38]; exact w1) (by rw [K2.r 45]; exact w2) (fun g3 s3 bl' blf' e65' => ?_)
        have K3 : Kp false h g3 := K2.tr (Kp.of s3 rfl)
        refine m174 (K3.SK S) ok1 ok2 (fun i hi => ?_) bl' ?_ ?_ (fun g4 s4 => ?_)
        · have hi' := (bk_al ok1.1).2.1
          have := ok1.2.1
          obtain ⟨y1, y2⟩ := blf' (400 * 0 + i) (by omega)
          rw [y1, y2]; exact bl i hi
        · rw [e65', va_upA, if_neg (by decide), e65, va_upA, if_pos rfl]
        · rw [e65', va_upA, if_pos rfl]
        · have K4 : Kp false h g4 := K3.tr (Kp.of s4 rfl)
          exact ⟨rfl, I.gen K4 (by rw [s4.1 0 (by decide), s4.1 35 (by decide), s3.1 0 (by decide), s3.1 35 (by decide), s2.1 0 (by decide), s2.1 35 (by decide)]; simp [zI_yI, va_upA]), ⟨_, rfl⟩, K4.cn⟩
      · refine c15M ht S hb bo (by omega) (V103bn S ?_)
        refine V174  (S1 _) ?_ ?_ ?_ ?_ ?_ <;> simp (disch := omega) only [oi_l, oi_n, z_nI, nIA, nIM, nIS, nIlt, nIle, nIeq, nIC, vpI, Nat.add_sub_cancel, Nat.not_le, Nat.not_lt, Nat.not_lt_zero, Nat.le_refl, not_true_eq_false, not_false_eq_true, false_imp_iff, true_imp_iff, forall_const, implies_true, Nat.reduceEqDiff, Nat.reduceLeDiff, Nat.reduceLT, zI_yI, va_upA, Nat.reduceEqDiff, ↓reduceIte, m15, hs3, show B.1.length ≤ t by omega]
        first | exact pfin I ((((Kp.rf.I0 0 _ rfl).I35 1 _ rfl).I35 0 _ rfl).I35 0 _ rfl) (by simp [zI_yI, va_upA]) | exact pfinT I ((((Kp.rf.I0 0 _ rfl).I35 1 _ rfl).I35 0 _ rfl).I35 0 _ rfl) (by simp [zI_yI, va_upA])
  · refine V103 S b2 hb.2.1 (c15M hs S hb bo (by omega) (V103an S b2 hb.2.1 ?_))
    have fin : WP 174 0 [some (.ref 35), some (.int (nI s)), some (.int x2), none, none, none] [] (yI h 0 0 (Int32.ofInt 1)) (fun v2 h2 => some (Value.int (Int32.ofInt (-1))) = v2 ∧ INV h2 ∧ (∃ x, some (Value.int (Int32.ofInt (-1))) = some (Value.int x)) ∧ zn h2 ≤ zn h + 200 ∧ zk h2 ≤ zk h + 14000) := by
      refine V174  (S1 _) ?_ ?_ ?_ ?_ ?_ <;> simp (disch := omega) only [oi_l, oi_n, z_nI, nIA, nIM, nIS, nIlt, nIle, nIeq, nIC, vpI, Nat.add_sub_cancel, Nat.not_le, Nat.not_lt, Nat.not_lt_zero, Nat.le_refl, not_true_eq_false, not_false_eq_true, false_imp_iff, true_imp_iff, forall_const, implies_true, Nat.reduceEqDiff, Nat.reduceLeDiff, Nat.reduceLT, zI_yI, va_upA, Nat.reduceEqDiff, ↓reduceIte, m15, show B.1.length ≤ s by omega]
      first | exact pfin I ((((Kp.rf.I0 0 _ rfl).I35 1 _ rfl).I35 0 _ rfl).I35 0 _ rfl) (by simp [zI_yI, va_upA]) | exact pfinT I ((((Kp.rf.I0 0 _ rfl).I35 1 _ rfl).I35 0 _ rfl).I35 0 _ rfl) (by simp [zI_yI, va_upA])
    rcases i32c x2 with hy | ⟨t, ht, rfl⟩
    · exact c15N S hb bo hy (V103nn S fin)
    · by_cases ht2 : t < B.1.length
      · exact c15S S hb bo ht2 (fun r hr => V103n S fin)
      · exact c15M ht S hb bo (by omega) (V103nn S fin)

/-! BEST SHIFTS of the class -/
theorem V9 {h : pm_H} {Q : Option Value → pm_H → Prop} {p : Nat} {r : Nat} {d5 : Option Value} {d6 : Option Value} {s : Nat} (S : SK h) (k1 : WP 9 3 [some (.ref 12), some (.ref p), some (.ref r), some (.int (nI s)), some (.ref 11), some (.int (Int32.ofInt 0)), d6] [] h Q) : WP 9 0 [some (.ref 12), some (.ref p), some (.ref r), some (.int (nI s)), some (.ref 11), d5, d6] [] h Q :=
  B9_0 (k1)
theorem V9L {h : pm_H} {Q : Option Value → pm_H → Prop} {p : Nat} {r : Nat} {d6 : Option Value} {s : Nat} {ta : Nat} (S : SK h) (k2 : ((Int32.ofInt 4) ≤ (nI ta)) → Q none h) (k3 : (¬ (Int32.ofInt 4) ≤ (nI ta)) → WP 9 13 [some (.ref 12), some (.ref p), some (.ref r), some (.int (nI s)), some (.ref 11), some (.int (nI ta)), some (.int (-(nI s)))] [] h Q) : WP 9 3 [some (.ref 12), some (.ref p), some (.ref r), some (.int (nI s)), some (.ref 11), some (.int (nI ta)), d6] [] h Q :=
  B9_3 (fun c1 => B9_85 (k2 c1)) (fun c1 => B9_9 (k3 c1))
theorem V9M {h : pm_H} {Q : Option Value → pm_H → Prop} {p : Nat} {r : Nat} {dr : Int32} {s : Nat} {ta : Nat} (S : SK h) (k2 : ((nI s) < dr) → WP 9 3 [some (.ref 12), some (.ref p), some (.ref r), some (.int (nI s)), some (.ref 11), some (.int ((nI ta) + (Int32.ofInt 1))), some (.int dr)] [] h Q) (k5 : (¬ (nI s) < dr) → ((nI ta) < (Int32.ofInt 2)) → (¬ ((nI ta) - (nI ta) / (Int32.ofInt 2) * (Int32.ofInt 2)) = (Int32.ofInt 1)) → WP 50 0 [some (.ref 11), some (.ref p), some (.int (Int32.ofInt 0)), some (.ref r), some (.int (Int32.ofInt 0)), some (.int dr), none, none, none, none, none, none, none, none, none, none, none, none, none] [] h (fun v1 h1 => WP 9 52 [some (.ref 12), some (.ref p), some (.ref r), some (.int (nI s)), some (.ref 11), some (.int (nI ta)), some (.int dr)] (v1.toList ++ []) h1 Q)) (k6 : (¬ (nI s) < dr) → ((nI ta) < (Int32.ofInt 2)) → (((nI ta) - (nI ta) / (Int32.ofInt 2) * (Int32.ofInt 2)) = (Int32.ofInt 1)) → WP 50 0 [some (.ref 11), some (.ref p), some (.int (Int32.ofInt 0)), some (.ref r), some (.int (Int32.ofInt 1)), some (.int dr), none, none, none, none, none, none, none, none, none, none, none, none, none] [] h (fun v1 h1 => WP 9 52 [some (.ref 12), some (.ref p), some (.ref r), some (.int (nI s)), some (.ref 11), some (.int (nI ta)), some (.int dr)] (v1.toList ++ []) h1 Q)) (k8 : (¬ (nI s) < dr) → (¬ (nI ta) < (Int32.ofInt 2)) → (¬ ((nI ta) - (nI ta) / (Int32.ofInt 2) * (Int32.ofInt 2)) = (Int32.ofInt 1)) → WP 50 0 [some (.ref 11), some (.ref p), some (.int (Int32.ofInt 1)), some (.ref r), some (.int (Int32.ofInt 0)), some (.int dr), none, none, none, none, none, none, none, none, none, none, none, none, none] [] h (fun v1 h1 => WP 9 52 [some (.ref 12), some (.ref p), some (.ref r), some (.int (nI s)), some (.ref 11), some (.int (nI ta)), some (.int dr)] (v1.toList ++ []) h1 Q)) (k9 : (¬ (nI s) < dr) → (¬ (nI ta) < (Int32.ofInt 2)) → (((nI ta) - (nI ta) / (Int32.ofInt 2) * (Int32.ofInt 2)) = (Int32.ofInt 1)) → WP 50 0 [some (.ref 11), some (.ref p), some (.int (Int32.ofInt 1)), some (.ref r), some (.int (Int32.ofInt 1)), some (.int dr), none, none, none, none, none, none, none, none, none, none, none, none, none] [] h (fun v1 h1 => WP 9 52 [some (.ref 12), some (.ref p), some (.ref r), some (.int (nI s)), some (.ref 11), some (.int (nI ta)), some (.int dr)] (v1.toList ++ []) h1 Q)) : WP 9 13 [some (.ref 12), some (.ref p), some (.ref r), some (.int (nI s)), some (.ref 11), some (.int (nI ta)), some (.int dr)] [] h Q :=
  B9_13 (fun c1 => B9_79 (k2 c1)) (fun c1 => B9_19 (fun c3 => B9_32 (B9_33 (by decide) (fun c4 => B9_46 (B9_47 (S.T 11) (k5 c1 c3 c4))) (fun c4 => B9_42 (B9_47 (S.T 11) (k6 c1 c3 c4))))) (fun c3 => B9_28 (B9_33 (by decide) (fun c7 => B9_46 (B9_47 (S.T 11) (k8 c1 c3 c7))) (fun c7 => B9_42 (B9_47 (S.T 11) (k9 c1 c3 c7))))))
theorem V9r {h : pm_H} {Q : Option Value → pm_H → Prop} {p : Nat} {r : Nat} {dr : Int32} {s : Nat} {ta : Nat} (S : SK h) (g1 : vp_in ((((nI ta) * (Int32.ofInt 41)) + dr) + (Int32.ofInt 20)) 164) (k2 : WP 9 13 [some (.ref 12), some (.ref p), some (.ref r), some (.int (nI s)), some (.ref 11), some (.int (nI ta)), some (.int (dr + (Int32.ofInt 1)))] [] (yI h 13 (((((nI ta) * (Int32.ofInt 41)) + dr) + (Int32.ofInt 20))).toNatClampNeg (((Int32.ofInt 3) * (zI h 11 1)) - (zI h 11 0))) Q) : WP 9 52 [some (.ref 12), some (.ref p), some (.ref r), some (.int (nI s)), some (.ref 11), some (.int (nI ta)), some (.int dr)] [] h Q :=
  B9_52 (S.T 12) (S.R 12 0) (S.T 11) (B52_0 (S.T 11) (B9_72 ⟨(S.T 13), (S.bd 13 g1)⟩ (k2)))
theorem V10 {h : pm_H} {Q : Option Value → pm_H → Prop} {d4 : Option Value} {d5 : Option Value} {d6 : Option Value} {d7 : Option Value} {d8 : Option Value} {d9 : Option Value} {p : Nat} {v : Nat} {m : Nat} (S : SK h) (k1 : WP 10 9 [some (.ref 12), some (.int (nI p)), some (.int (nI v)), some (.int (nI m)), some (.int (Int32.ofInt (-1))), some (.int (Int32.ofInt 0)), some (.int (Int32.ofInt 0)), d7, d8, d9] [] h Q) : WP 10 0 [some (.ref 12), some (.int (nI p)), some (.int (nI v)), some (.int (nI m)), d4, d5, d6, d7, d8, d9] [] h Q :=
  B10_0 (k1)
theorem V10L {h : pm_H} {Q : Option Value → pm_H → Prop} {be : Int32} {bv : Int32} {d7 : Option Value} {d8 : Option Value} {d9 : Option Value} {p : Nat} {v : Nat} {m : Nat} {k : Nat} (S : SK h) (g2 : ((nI m) ≤ (nI k)) → vp_in (nI v) 42) (g3 : ((nI m) ≤ (nI k)) → vp_in (((nI p) * (Int32.ofInt 42)) + (nI v)) 504) (k4 : ((nI m) ≤ (nI k)) → Q none (yI (yI h 15 ((nI v)).toNatClampNeg bv) 16 ((((nI p) * (Int32.ofInt 42)) + (nI v))).toNatClampNeg be)) (g5 : (¬ (nI m) ≤ (nI k)) → vp_in (((((((nI v) - (nI v) / (Int32.ofInt 2) * (Int32.ofInt 2)) * (Int32.ofInt 2)) + ((nI k) - (nI k) / (Int32.ofInt 2) * (Int32.ofInt 2))) * (Int32.ofInt 41)) + (((nI k) / (Int32.ofInt 2)) - ((nI v) / (Int32.ofInt 2)))) + (Int32.ofInt 20)) 164) (g6 : (¬ (nI m) ≤ (nI k)) → vp_in (nI k) 42) (k8 : (¬ (nI m) ≤ (nI k)) → (be = (Int32.ofInt (-1))) → WP 10 9 [some (.ref 12), some (.int (nI p)), some (.int (nI v)), some (.int (nI m)), some (.int (nI k)), some (.int ((zI h 13 ((((((((nI v) - (nI v) / (Int32.ofInt 2) * (Int32.ofInt 2)) * (Int32.ofInt 2)) + ((nI k) - (nI k) / (Int32.ofInt 2) * (Int32.ofInt 2))) * (Int32.ofInt 41)) + (((nI k) / (Int32.ofInt 2)) - ((nI v) / (Int32.ofInt 2)))) + (Int32.ofInt 20))).toNatClampNeg) + (zI h 14 ((nI k)).toNatClampNeg))), some (.int ((nI k) + (Int32.ofInt 1))), some (.int ((((nI v) - (nI v) / (Int32.ofInt 2) * (Int32.ofInt 2)) * (Int32.ofInt 2)) + ((nI k) - (nI k) / (Int32.ofInt 2) * (Int32.ofInt 2)))), some (.int (((nI k) / (Int32.ofInt 2)) - ((nI v) / (Int32.ofInt 2)))), some (.int ((zI h 13 ((((((((nI v) - (nI v) / (Int32.ofInt 2) * (Int32.ofInt 2)) * (Int32.ofInt 2)) + ((nI k) - (nI k) / (Int32.ofInt 2) * (Int32.ofInt 2))) * (Int32.ofInt 41)) + (((nI k) / (Int32.ofInt 2)) - ((nI v) / (Int32.ofInt 2)))) + (Int32.ofInt 20))).toNatClampNeg) + (zI h 14 ((nI k)).toNatClampNeg)))] [] h Q) (k10 : (¬ (nI m) ≤ (nI k)) → (¬ be = (Int32.ofInt (-1))) → (((zI h 13 ((((((((nI v) - (nI v) / (Int32.ofInt 2) * (Int32.ofInt 2)) * (Int32.ofInt 2)) + ((nI k) - (nI k) / (Int32.ofInt 2) * (Int32.ofInt 2))) * (Int32.ofInt 41)) + (((nI k) / (Int32.ofInt 2)) - ((nI v) / (Int32.ofInt 2)))) + (Int32.ofInt 20))).toNatClampNeg) + (zI h 14 ((nI k)).toNatClampNeg)) ≤ bv) → WP 10 9 [some (.ref 12), some (.int (nI p)), some (.int (nI v)), some (.int (nI m)), some (.int be), some (.int bv), some (.int ((nI k) + (Int32.ofInt 1))), some (.int ((((nI v) - (nI v) / (Int32.ofInt 2) * (Int32.ofInt 2)) * (Int32.ofInt 2)) + ((nI k) - (nI k) / (Int32.ofInt 2) * (Int32.ofInt 2)))), some (.int (((nI k) / (Int32.ofInt 2)) - ((nI v) / (Int32.ofInt 2)))), some (.int ((zI h 13 ((((((((nI v) - (nI v) / (Int32.ofInt 2) * (Int32.ofInt 2)) * (Int32.ofInt 2)) + ((nI k) - (nI k) / (Int32.ofInt 2) * (Int32.ofInt 2))) * (Int32.ofInt 41)) + (((nI k) / (Int32.ofInt 2)) - ((nI v) / (Int32.ofInt 2)))) + (Int32.ofInt 20))).toNatClampNeg) + (zI h 14 ((nI k)).toNatClampNeg)))] [] h Q) (k11 : (¬ (nI m) ≤ (nI k)) → (¬ be = (Int32.ofInt (-1))) → (¬ ((zI h 13 ((((((((nI v) - (nI v) / (Int32.ofInt 2) * (Int32.ofInt 2)) * (Int32.ofInt 2)) + ((nI k) - (nI k) / (Int32.ofInt 2) * (Int32.ofInt 2))) * (Int32.ofInt 41)) + (((nI k) / (Int32.ofInt 2)) - ((nI v) / (Int32.ofInt 2)))) + (Int32.ofInt 20))).toNatClampNeg) + (zI h 14 ((nI k)).toNatClampNeg)) ≤ bv) → WP 10 9 [some (.ref 12), some (.int (nI p)), some (.int (nI v)), some (.int (nI m)), some (.int (nI k)), some (.int ((zI h 13 ((((((((nI v) - (nI v) / (Int32.ofInt 2) * (Int32.ofInt 2)) * (Int32.ofInt 2)) + ((nI k) - (nI k) / (Int32.ofInt 2) * (Int32.ofInt 2))) * (Int32.ofInt 41)) + (((nI k) / (Int32.ofInt 2)) - ((nI v) / (Int32.ofInt 2)))) + (Int32.ofInt 20))).toNatClampNeg) + (zI h 14 ((nI k)).toNatClampNeg))), some (.int ((nI k) + (Int32.ofInt 1))), some (.int ((((nI v) - (nI v) / (Int32.ofInt 2) * (Int32.ofInt 2)) * (Int32.ofInt 2)) + ((nI k) - (nI k) / (Int32.ofInt 2) * (Int32.ofInt 2)))), some (.int (((nI k) / (Int32.ofInt 2)) - ((nI v) / (Int32.ofInt 2)))), some (.int ((zI h 13 ((((((((nI v) - (nI v) / (Int32.ofInt 2) * (Int32.ofInt 2)) * (Int32.ofInt 2)) + ((nI k) - (nI k) / (Int32.ofInt 2) * (Int32.ofInt 2))) * (Int32.ofInt 41)) + (((nI k) / (Int32.ofInt 2)) - ((nI v) / (Int32.ofInt 2)))) + (Int32.ofInt 20))).toNatClampNeg) + (zI h 14 ((nI k)).toNatClampNeg)))] [] h Q) : WP 10 9 [some (.ref 12), some (.int (nI p)), some (.int (nI v)), some (.int (nI m)), some (.int be), some (.int bv), some (.int (nI k)), d7, d8, d9] [] h Q :=
  B10_9 (fun c1 => B10_90 (S.T 12) (S.R 12 2) ⟨(S.T 15), (S.bd 15 (g2 c1))⟩ (S.R 12 3) ⟨(S.T 16), (S.bd 16 (g3 c1))⟩ (k4 c1)) (fun c1 => B10_15 (by decide) (S.T 12) (S.R 12 0) ⟨(S.T 13), (S.bd 13 (g5 c1))⟩ (S.R 12 1) ⟨(S.T 14), (S.bd 14 (g6 c1))⟩ (fun c7 => B10_76 (B10_84 (k8 c1 c7))) (fun c7 => B10_69 (fun c9 => B10_84 (k10 c1 c7 c9)) (fun c9 => B10_76 (B10_84 (k11 c1 c7 c9)))))
theorem V11 {h : pm_H} {Q : Option Value → pm_H → Prop} {d4 : Option Value} {d5 : Option Value} {n : Nat} {f : Nat} (S : SK h) (k1 : WP 11 6 [some (.ref 12), some (.int (nI n)), some (.int (nI f)), some (.ref 34), some (.int (nI f)), some (.int (Int32.ofInt 0))] [] h Q) : WP 11 0 [some (.ref 12), some (.int (nI n)), some (.int (nI f)), some (.ref 34), d4, d5] [] h Q :=
  B11_0 (k1)
theorem V11L {h : pm_H} {Q : Option Value → pm_H → Prop} {n : Nat} {f : Nat} {v : Nat} {k : Nat} (S : SK h) (k2 : ((nI n) ≤ (nI k)) → Q none h) (k4 : (¬ (nI n) ≤ (nI k)) → ((Int32.ofInt (zN h 34)) ≤ (nI k)) → Q none h) (g5 : (¬ (nI n) ≤ (nI k)) → (¬ (Int32.ofInt (zN h 34)) ≤ (nI k)) → vp_in (nI k) 12) (g6 : (¬ (nI n) ≤ (nI k)) → (¬ (Int32.ofInt (zN h 34)) ≤ (nI k)) → vp_in (((nI k) * (Int32.ofInt 42)) + (nI v)) 504) (k7 : (¬ (nI n) ≤ (nI k)) → (¬ (Int32.ofInt (zN h 34)) ≤ (nI k)) → WP 11 6 [some (.ref 12), some (.int (nI n)), some (.int (nI f)), some (.ref 34), some (.int (zI h 16 ((((nI k) * (Int32.ofInt 42)) + (nI v))).toNatClampNeg)), some (.int ((nI k) + (Int32.ofInt 1)))] [] (yI h 34 ((nI k)).toNatClampNeg (((nI v) / (Int32.ofInt 2)) + (((nI v) - (nI v) / (Int32.ofInt 2) * (Int32.ofInt 2)) * (Int32.ofInt 100)))) Q) : WP 11 6 [some (.ref 12), some (.int (nI n)), some (.int (nI f)), some (.ref 34), some (.int (nI v)), some (.int (nI k))] [] h Q :=
  B11_6 (fun c1 => B11_56 (k2 c1)) (fun c1 => B11_12 (S.al 34) (fun c3 => B11_56 (k4 c1 c3)) (fun c3 => B11_19 (by decide) ⟨(S.T 34), (S.bd 34 (g5 c1 c3))⟩ (S.T 12) (S.R 12 3) ⟨(S.T 16), (S.bd 16 (g6 c1 c3))⟩ (k7 c1 c3)))
theorem V178 {h : pm_H} {Q : Option Value → pm_H → Prop} {x1 : Int32} {d2 : Option Value} {d3 : Option Value} (S : SK h) (k1 : WP 178 5 [some (.ref 15), some (.int x1), some (.int (Int32.ofInt 0)), some (.int (Int32.ofInt (zN h 15)))] [] h Q) : WP 178 0 [some (.ref 15), some (.int x1), d2, d3] [] h Q :=
  B178_0 (S.al 15) (k1)
theorem V178L {h : pm_H} {Q : Option Value → pm_H → Prop} {x1 : Int32} {k : Nat} {n : Nat} (S : SK h) (k2 : ((nI n) ≤ (nI k)) → Q none h) (g3 : (¬ (nI n) ≤ (nI k)) → vp_in (nI k) 42) (k4 : (¬ (nI n) ≤ (nI k)) → WP 178 5 [some (.ref 15), some (.int x1), some (.int ((nI k) + (Int32.ofInt 1))), some (.int (nI n))] [] (yI h 15 ((nI k)).toNatClampNeg x1) Q) : WP 178 5 [some (.ref 15), some (.int x1), some (.int (nI k)), some (.int (nI n))] [] h Q :=
  B178_5 (fun c1 => B178_20 (k2 c1)) (fun c1 => B178_10 ⟨(S.T 15), (S.bd 15 (g3 c1))⟩ (k4 c1))
theorem V8 {h : pm_H} {Q : Option Value → pm_H → Prop} {q : Nat} {d5 : Option Value} {d6 : Option Value} {d7 : Option Value} {s : Nat} (S : SK h) (k1 : WP 178 0 [some (.ref 15), some (.int (Int32.ofInt 0)), none, none] [] h (fun v1 h1 => WP 8 15 [some (.ref 12), some (.ref q), some (.int (nI s)), some (.ref 11), some (.ref 34), some (.int ((Int32.ofInt 2) * ((nI s) + (Int32.ofInt 1)))), d6, d7] (v1.toList ++ []) h1 Q)) : WP 8 0 [some (.ref 12), some (.ref q), some (.int (nI s)), some (.ref 11), some (.ref 34), d5, d6, d7] [] h Q :=
  B8_0 (S.T 12) (S.R 12 2) k1
theorem V8a {h : pm_H} {Q : Option Value → pm_H → Prop} {q : Nat} {d6 : Option Value} {d7 : Option Value} {s : Nat} {m : Nat} (S : SK h) (t1 : zT h q = 3) (k2 : WP 8 23 [some (.ref 12), some (.ref q), some (.int (nI s)), some (.ref 11), some (.ref 34), some (.int (nI m)), some (.int ((zI h q 2) - (Int32.ofInt 2))), d7] [] h Q) : WP 8 15 [some (.ref 12), some (.ref q), some (.int (nI s)), some (.ref 11), some (.ref 34), some (.int (nI m)), d6, d7] [] h Q :=
  B8_15 t1 (k2)
theorem V8L {h : pm_H} {Q : Option Value → pm_H → Prop} {q : Nat} {pp : Int32} {d7 : Option Value} {s : Nat} {m : Nat} (S : SK h) (k2 : (pp < 0) → WP 8 109 [some (.ref 12), some (.ref q), some (.int (nI s)), some (.ref 11), some (.ref 34), some (.int (nI m)), some (.int (Int32.ofInt 0)), some (.int (Int32.ofInt 1))] [] h Q) (k3 : (¬ pp < 0) → WP 8 28 [some (.ref 12), some (.ref q), some (.int (nI s)), some (.ref 11), some (.ref 34), some (.int (nI m)), some (.int pp), d7] [] h Q) : WP 8 23 [some (.ref 12), some (.ref q), some (.int (nI s)), some (.ref 11), some (.ref 34), some (.int (nI m)), some (.int pp), d7] [] h Q :=
  B8_23 (fun c1 => B8_103 (k2 c1)) (fun c1 => k3 c1)
theorem V8b {h : pm_H} {Q : Option Value → pm_H → Prop} {q : Nat} {pp : Int32} {d7 : Option Value} {s : Nat} {m : Nat} (S : SK h) (k1 : WP 8 74 [some (.ref 12), some (.ref q), some (.int (nI s)), some (.ref 11), some (.ref 34), some (.int (nI m)), some (.int pp), some (.int (Int32.ofInt 0))] [] h Q) : WP 8 71 [some (.ref 12), some (.ref q), some (.int (nI s)), some (.ref 11), some (.ref 34), some (.int (nI m)), some (.int pp), d7] [] h Q :=
  B8_71 (k1)
theorem V8M {h : pm_H} {Q : Option Value → pm_H → Prop} {q : Nat} {s : Nat} {m : Nat} {pp : Nat} {v : Nat} (S : SK h) (k2 : ((nI m) ≤ (nI v)) → WP 8 23 [some (.ref 12), some (.ref q), some (.int (nI s)), some (.ref 11), some (.ref 34), some (.int (nI m)), some (.int ((nI pp) + (Int32.ofInt (-1)))), some (.int (nI v))] [] h Q) (k3 : (¬ (nI m) ≤ (nI v)) → WP 10 0 [some (.ref 12), some (.int (nI pp)), some (.int (nI v)), some (.int (nI m)), none, none, none, none, none, none] [] h (fun v1 h1 => WP 8 91 [some (.ref 12), some (.ref q), some (.int (nI s)), some (.ref 11), some (.ref 34), some (.int (nI m)), some (.int (nI pp)), some (.int (nI v))] (v1.toList ++ []) h1 Q)) : WP 8 74 [some (.ref 12), some (.ref q), some (.int (nI s)), some (.ref 11), some (.ref 34), some (.int (nI m)), some (.int (nI pp)), some (.int (nI v))] [] h Q :=
  B8_74 (fun c1 => B8_97 (k2 c1)) (fun c1 => B8_81 (S.T 12) (k3 c1))
theorem V8c {h : pm_H} {Q : Option Value → pm_H → Prop} {q : Nat} {s : Nat} {m : Nat} {pp : Nat} {v : Nat} (S : SK h) (k1 : WP 8 74 [some (.ref 12), some (.ref q), some (.int (nI s)), some (.ref 11), some (.ref 34), some (.int (nI m)), some (.int (nI pp)), some (.int ((nI v) + (Int32.ofInt 1)))] [] h Q) : WP 8 91 [some (.ref 12), some (.ref q), some (.int (nI s)), some (.ref 11), some (.ref 34), some (.int (nI m)), some (.int (nI pp)), some (.int (nI v))] [] h Q :=
  B8_91 (k1)
theorem V8N {h : pm_H} {Q : Option Value → pm_H → Prop} {q : Nat} {s : Nat} {m : Nat} {f : Nat} {k : Nat} (S : SK h) (t2 : ((nI m) ≤ (nI k)) → zT h q = 3) (k3 : ((nI m) ≤ (nI k)) → WP 11 0 [some (.ref 12), some (.int (zI h q 2)), some (.int (nI f)), some (.ref 34), none, none] [] h (fun v1 h1 => WP 8 155 [some (.ref 12), some (.ref q), some (.int (nI s)), some (.ref 11), some (.ref 34), some (.int (nI m)), some (.int (nI f)), some (.int (nI k))] (v1.toList ++ []) h1 Q)) (g4 : (¬ (nI m) ≤ (nI k)) → vp_in (nI k) 42) (g5 : (¬ (nI m) ≤ (nI k)) → vp_in (nI f) 42) (k7 : (¬ (nI m) ≤ (nI k)) → ((zI h 15 ((nI k)).toNatClampNeg) ≤ (zI h 15 ((nI f)).toNatClampNeg)) → WP 8 109 [some (.ref 12), some (.ref q), some (.int (nI s)), some (.ref 11), some (.ref 34), some (.int (nI m)), some (.int (nI f)), some (.int ((nI k) + (Int32.ofInt 1)))] [] h Q) (k8 : (¬ (nI m) ≤ (nI k)) → (¬ (zI h 15 ((nI k)).toNatClampNeg) ≤ (zI h 15 ((nI f)).toNatClampNeg)) → WP 8 109 [some (.ref 12), some (.ref q), some (.int (nI s)), some (.ref 11), some (.ref 34), some (.int (nI m)), some (.int (nI k)), some (.int ((nI k) + (Int32.ofInt 1)))] [] h Q) : WP 8 109 [some (.ref 12), some (.ref q), some (.int (nI s)), some (.ref 11), some (.ref 34), some (.int (nI m)), some (.int (nI f)), some (.int (nI k))] [] h Q :=
  B8_109 (fun c1 => B8_143 (t2 c1) (S.T 12) (k3 c1)) (fun c1 => B8_116 (S.T 12) (S.R 12 2) ⟨(S.T 15), (S.bd 15 (g4 c1))⟩ ⟨(S.T 15), (S.bd 15 (g5 c1))⟩ (fun c6 => B8_137 (k7 c1 c6)) (fun c6 => B8_133 (B8_137 (k8 c1 c6))))
theorem V8r {h : pm_H} {Q : Option Value → pm_H → Prop} {q : Nat} {d7 : Option Value} {s : Nat} {m : Nat} {f : Nat} (S : SK h) (g1 : vp_in (nI f) 42) (k2 : Q (some (.int (zI h 15 ((nI f)).toNatClampNeg))) h) : WP 8 155 [some (.ref 12), some (.ref q), some (.int (nI s)), some (.ref 11), some (.ref 34), some (.int (nI m)), some (.int (nI f)), d7] [] h Q :=
  B8_155 (S.T 12) (S.R 12 2) ⟨(S.T 15), (S.bd 15 g1)⟩ k2
section SHC
variable {h : pm_H} {Q : Option Value → pm_H → Prop}
theorem c178 (S : SK h) (k0 : ∀ g, Same [15] h g → (∀ t, t < 42 → zI g 15 t = Int32.ofInt 0) → Q none g) : WP 178 0 [some (.ref 15), some (.int (Int32.ofInt 0)), none, none] [] h Q := by
  have L : ∀ m k (g : pm_H), k + m = 42 → Same [15] h g → (∀ t, t < k → zI g 15 t = Int32.ofInt 0) → WP 178 5 [some (.ref 15), some (.int (Int32.ofInt 0)), some (.int (nI k)), some (.int (nI 42))] [] g Q := by
    intro m
    induction m with
    | zero =>
      intro k g hk sg f
      obtain rfl : k = 42 := by omega
      have k0' := k0 g sg f
      refine V178L  (sg.SK S) ?_ ?_ ?_ <;> simp (disch := omega) only [oi_l, oi_n, z_nI, nIA, nIM, nIS, nIlt, nIle, nIeq, nIC, vpI, Nat.add_sub_cancel, Nat.not_le, Nat.not_lt, Nat.not_lt_zero, Nat.le_refl, not_true_eq_false, not_false_eq_true, false_imp_iff, true_imp_iff, forall_const, implies_true, Nat.reduceEqDiff, Nat.reduceLeDiff, Nat.reduceLT] <;> first | omega | exact k0'
    | succ m ih =>
      intro k g hk sg f
      refine V178L  (sg.SK S) ?_ ?_ ?_ <;> simp (disch := omega) only [oi_l, oi_n, z_nI, nIA, nIM, nIS, nIlt, nIle, nIeq, nIC, vpI, Nat.add_sub_cancel, Nat.not_le, Nat.not_lt, Nat.not_lt_zero, Nat.le_refl, not_true_eq_false, not_false_eq_true, false_imp_iff, true_imp_iff, forall_const, implies_true, Nat.reduceEqDiff, Nat.reduceLeDiff, Nat.reduceLT, show ¬ 42 ≤ k by omega] <;> (try omega)
      refine ih (k + 1) _ (by omega) (sg.I 15 _ _ (by decide)) (fun t ht => ?_)
      simp only [zI_yI, va_upA, if_true]
      by_cases ht' : t = k
      · rw [if_pos ht']; rfl
      · rw [if_neg ht']; exact f t (by omega)
  refine V178 S ?_
  rw [S.N 15]
  exact L 42 0 h (by omega) Same.rf (fun t ht => absurd ht (Nat.not_lt_zero _))
/-- measureSeam -/
theorem c9 {p r s : Nat} {a b : BkS} (S : SK h) (hs : s ≤ 20) (ha : atS h p a) (hb : atS h r b) (oka : okS a.2) (okb : okS b.2) (k0 : ∀ g, Same [11, 13] h g → (∀ ta u v, ta < 4 → u ≤ s → v ≤ s → zI g 13 (ta * 41 + 20 + v - u) = Int32.ofInt (sV a.2 (decide (2 ≤ ta)) u b.2 (tw ta) v)) → Q none g) : WP 9 0 [some (.ref 12), some (.ref p), some (.ref r), some (.int (nI s)), some (.ref 11), none, none] [] h Q := by
  have M : ∀ ta, ta < 4 → (∀ (g : pm_H) d6, Same [11, 13] h g → (∀ ta' e, ta' < ta + 1 → e ≤ 2 * s → zI g 13 (ta' * 41 + 20 + e - s) = Int32.ofInt (sV a.2 (decide (2 ≤ ta')) (s - e) b.2 (tw ta') (e - s))) → WP 9 3 [some (.ref 12), some (.ref p), some (.ref r), some (.int (nI s)), some (.ref 11), some (.int (nI (ta + 1))), d6] [] g Q) →
      ∀ m e (g : pm_H) dr, e + m = 2 * s + 1 → dr = Int32.ofInt ((e : Int) - s) → Same [11, 13] h g → (∀ ta' e', ta' < ta → e' ≤ 2 * s → zI g 13 (ta' * 41 + 20 + e' - s) = Int32.ofInt (sV a.2 (decide (2 ≤ ta')) (s - e') b.2 (tw ta') (e' - s))) → (∀ e', e' < e → zI g 13 (ta * 41 + 20 + e' - s) = Int32.ofInt (sV a.2 (decide (2 ≤ ta)) (s - e') b.2 (tw ta) (e' - s))) → WP 9 13 [some (.ref 12), some (.ref p), some (.ref r), some (.int (nI s)), some (.ref 11), some (.int (nI ta)), some (.int dr)] [] g Q := by
    intro ta hta kk m
    induction m with
    | zero =>
      intro e g dr he ed sg f1 f2
      have c : nI s < dr := by rw [ed, ← oi_n, zLT (by omega) (by omega) (by omega) (by omega)]; omega
      have kk' := kk g (some (.int dr)) sg (fun ta' e' h1 h2 => by
        by_cases q : ta' = ta
        · rw [q]; exact f2 e' (by omega)
        · exact f1 ta' e' (by omega) h2)
      refine V9M  (sg.SK S) ?_ ?_ ?_ ?_ ?_ <;> simp (disch := omega) only [oi_l, oi_n, z_nI, nIA, nIM, nIS, nIlt, nIle, nIeq, nIC, vpI, Nat.add_sub_cancel, Nat.not_le, Nat.not_lt, Nat.not_lt_zero, Nat.le_refl, not_true_eq_false, not_false_eq_true, false_imp_iff, true_imp_iff, forall_const, implies_true, Nat.reduceEqDiff, Nat.reduceLeDiff, Nat.reduceLT, c] <;> first | omega | exact kk'
    | succ m ih =>
      intro e g dr he ed sg f1 f2
      have c : ¬ nI s < dr := by rw [ed, ← oi_n, zLT (by omega) (by omega) (by omega) (by omega)]; omega
      have ix : nI ta * Int32.ofInt 41 + dr + Int32.ofInt 20 = nI (ta * 41 + 20 + e - s) := by
        rw [ed, ← oi_n, ← Int32.ofInt_mul, ← Int32.ofInt_add, ← Int32.ofInt_add, ← oi_n]
        exact congrArg Int32.ofInt (by omega)
      have nx : dr + Int32.ofInt 1 = Int32.ofInt (((e + 1 : Nat) : Int) - s) := by
        rw [ed, ← Int32.ofInt_add]; exact congrArg Int32.ofInt (by omega)
      have core : WP 50 0 [some (.ref 11), some (.ref p), some (.int (bI (decide (2 ≤ ta)))), some (.ref r), some (.int (bI (tw ta))), some (.int dr), none, none, none, none, none, none, none, none, none, none, none, none, none] [] g (fun v1 h1 => WP 9 52 [some (.ref 12), some (.ref p), some (.ref r), some (.int (nI s)), some (.ref 11), some (.int (nI ta)), some (.int dr)] (v1.toList ++ []) h1 Q) := by
        refine c50 (s1 := s - e) (s2 := e - s) (sg.SK S) (ha.keep (sg.D (by decide))) (hb.keep (sg.D (by decide))) oka okb (by omega) (by omega) (by rw [ed]; exact congrArg Int32.ofInt (by omega)) (fun g2 s2 e0 e1 => ?_)
        have s3 : Same [11, 13] h g2 := (sg.tr s2).sub (by decide)
        refine V9r (s3.SK S) ?_ ?_
        · rw [ix, vpI (by omega) (by omega)]; omega
        · rw [ix, nx, e0, e1, sV_n, nIC (by omega)]
          refine ih (e + 1) _ _ (by omega) rfl (s3.I 13 _ _ (by decide)) (fun ta' e' h1 h2 => ?_) (fun e' h1 => ?_)
          · simp only [zI_yI, va_upA, if_true]
            rw [if_neg (by omega), s2.1 13 (by decide)]; exact f1 ta' e' h1 h2
          · simp only [zI_yI, va_upA, if_true]
            by_cases q : e' = e
            · rw [q, if_pos rfl]
            · rw [if_neg (by omega), s2.1 13 (by decide)]; exact f2 e' (by omega)
      have ht4 : ta = 0 ∨ ta = 1 ∨ ta = 2 ∨ ta = 3 := by omega
      rcases ht4 with rfl | rfl | rfl | rfl <;> (refine V9M  (sg.SK S) ?_ ?_ ?_ ?_ ?_ <;> simp (disch := omega) only [oi_l, oi_n, z_nI, nIA, nIM, nIS, nIlt, nIle, nIeq, nIC, vpI, Nat.add_sub_cancel, Nat.not_le, Nat.not_lt, Nat.not_lt_zero, Nat.le_refl, not_true_eq_false, not_false_eq_true, false_imp_iff, true_imp_iff, forall_const, implies_true, Nat.reduceEqDiff, Nat.reduceLeDiff, Nat.reduceLT, c, nID, Nat.reduceDiv, Nat.reduceMul, Nat.reduceSub] <;> first | omega | exact core)
  have L : ∀ m ta (g : pm_H) d6, ta + m = 4 → Same [11, 13] h g → (∀ ta' e, ta' < ta → e ≤ 2 * s → zI g 13 (ta' * 41 + 20 + e - s) = Int32.ofInt (sV a.2 (decide (2 ≤ ta')) (s - e) b.2 (tw ta') (e - s))) → WP 9 3 [some (.ref 12), some (.ref p), some (.ref r), some (.int (nI s)), some (.ref 11), some (.int (nI ta)), d6] [] g Q := by
    intro m
    induction m with
    | zero =>
      intro ta g d6 ht sg f
      obtain rfl : ta = 4 := by omega
      have k0' := k0 g sg (fun ta u v h1 h2 h3 => by
        have := f ta (v + s - u) h1 (by omega)
        rw [show ta * 41 + 20 + (v + s - u) - s = ta * 41 + 20 + v - u by omega] at this
        rw [this]
        exact congrArg Int32.ofInt (SA_inv (by omega) (by omega)))
      refine V9L  (sg.SK S) ?_ ?_ <;> simp (disch := omega) only [oi_l, oi_n, z_nI, nIA, nIM, nIS, nIlt, nIle, nIeq, nIC, vpI, Nat.add_sub_cancel, Nat.not_le, Nat.not_lt, Nat.not_lt_zero, Nat.le_refl, not_true_eq_false, not_false_eq_true, false_imp_iff, true_imp_iff, forall_const, implies_true, Nat.reduceEqDiff, Nat.reduceLeDiff, Nat.reduceLT] <;> first | omega | exact k0'
    | succ m ih =>
      intro ta g d6 ht sg f
      have M' := M ta (by omega) (fun g d6 sg f => ih (ta + 1) g d6 (by omega) sg f) (2 * s + 1) 0 g (-(nI s)) (by omega) (by rw [← oi_n, ← Int32.ofInt_neg]; exact congrArg Int32.ofInt (by omega)) sg f (fun e' h1 => absurd h1 (Nat.not_lt_zero _))
      refine V9L  (sg.SK S) ?_ ?_ <;> simp (disch := omega) only [oi_l, oi_n, z_nI, nIA, nIM, nIS, nIlt, nIle, nIeq, nIC, vpI, Nat.add_sub_cancel, Nat.not_le, Nat.not_lt, Nat.not_lt_zero, Nat.le_refl, not_true_eq_false, not_false_eq_true, false_imp_iff, true_imp_iff, forall_const, implies_true, Nat.reduceEqDiff, Nat.reduceLeDiff, Nat.reduceLT, show ¬ 4 ≤ ta by omega] <;> first | omega | exact M'
  exact V9 S (L 4 0 h none (by omega) Same.rf (fun ta' e h1 => absurd h1 (Nat.not_lt_zero _)))
/-- chooseNext -/
theorem c10 {p v s m : Nat} {l1 l2 : List Nat} {Wb : Nat → Int} (S : SK h) (hp : p < 12) (hs : s ≤ 20) (hm : m = 2 * s + 2) (hv : v < m) (e13 : ∀ ta u v, ta < 4 → u ≤ s → v ≤ s → zI h 13 (ta * 41 + 20 + v - u) = Int32.ofInt (sV l1 (decide (2 ≤ ta)) u l2 (tw ta) v)) (e14 : ∀ t, t < m → zI h 14 t = Int32.ofInt (Wb t)) (hf : ∀ w, w < m → -5000 ≤ sV l1 (tw v) (v / 2) l2 (tw w) (w / 2) + Wb w ∧ sV l1 (tw v) (v / 2) l2 (tw w) (w / 2) + Wb w ≤ 15000)
    (k0 : ∀ g, Same [15, 16] h g → zI g 15 = va_up (zI h 15) v (Int32.ofInt ((fun w => sV l1 (tw v) (v / 2) l2 (tw w) (w / 2) + Wb w) (amx (fun w => sV l1 (tw v) (v / 2) l2 (tw w) (w / 2) + Wb w) m))) → zI g 16 = va_up (zI h 16) (p * 42 + v) (nI (amx (fun w => sV l1 (tw v) (v / 2) l2 (tw w) (w / 2) + Wb w) m)) → Q none g) :
    WP 10 0 [some (.ref 12), some (.int (nI p)), some (.int (nI v)), some (.int (nI m)), none, none, none, none, none, none] [] h Q := by
  obtain ⟨f, ef⟩ : ∃ f : Nat → Int, f = fun w => sV l1 (tw v) (v / 2) l2 (tw w) (w / 2) + Wb w := ⟨_, rfl⟩
  rw [← ef] at k0
  have hf' : ∀ w, w < m → -5000 ≤ f w ∧ f w ≤ 15000 := fun w hw => by rw [ef]; exact hf w hw
  have L : ∀ mm k be bv d7 d8 d9, k + mm = m → (k = 0 ∧ be = Int32.ofInt (-1)) ∨ (0 < k ∧ be = nI (amx f k) ∧ bv = Int32.ofInt (f (amx f k))) → WP 10 9 [some (.ref 12), some (.int (nI p)), some (.int (nI v)), some (.int (nI m)), some (.int be), some (.int bv), some (.int (nI k)), d7, d8, d9] [] h Q := by
    intro mm
    induction mm with
    | zero =>
      intro k be bv d7 d8 d9 hk hb
      obtain rfl : k = m := by omega
      rcases hb with ⟨q, -⟩ | ⟨-, rfl, rfl⟩
      · omega
      refine V10L  S ?_ ?_ ?_ ?_ ?_ ?_ ?_ ?_ <;> simp (disch := omega) only [oi_l, oi_n, z_nI, nIA, nIM, nIS, nIlt, nIle, nIeq, nIC, vpI, Nat.add_sub_cancel, Nat.not_le, Nat.not_lt, Nat.not_lt_zero, Nat.le_refl, not_true_eq_false, not_false_eq_true, false_imp_iff, true_imp_iff, forall_const, implies_true, Nat.reduceEqDiff, Nat.reduceLeDiff, Nat.reduceLT] <;> (try omega)
      exact k0 _ ((Same.rf.I 15 _ _ (by decide)).I 16 _ _ (by decide)) (by simp [zI_yI]) (by simp [zI_yI])
    | succ mm ih =>
      intro k be bv d7 d8 d9 hk hb
      have i13 := e13 ((v - v / 2 * 2) * 2 + (k - k / 2 * 2)) (v / 2) (k / 2) (by omega) (by omega) (by omega)
      have hIx : nI (((v - v / 2 * 2) * 2 + (k - k / 2 * 2)) * 41) + (nI (k / 2) - nI (v / 2)) + nI 20 = nI (((v - v / 2 * 2) * 2 + (k - k / 2 * 2)) * 41 + 20 + k / 2 - v / 2) := by
        rw [← oi_n, ← oi_n, ← oi_n, ← oi_n, ← Int32.ofInt_sub, ← Int32.ofInt_add, ← Int32.ofInt_add, ← oi_n]
        exact congrArg Int32.ofInt (by omega)
      have d1 : decide (2 ≤ (v - v / 2 * 2) * 2 + (k - k / 2 * 2)) = tw v := decide_eq_decide.mpr (by omega)
      have d2 : tw ((v - v / 2 * 2) * 2 + (k - k / 2 * 2)) = tw k := decide_eq_decide.mpr (by omega)
      rw [d1, d2] at i13
      have i14 := e14 k (by omega)
      have fk : sV l1 (tw v) (v / 2) l2 (tw k) (k / 2) + Wb k = f k := by rw [ef]
      have b1 := hf' k (by omega)
      have hmk : ¬ m ≤ k := by omega
      rcases hb with ⟨rfl, rfl⟩ | ⟨q, rfl, rfl⟩
      · have I' := fun d7 d8 d9 => ih 1 (nI 0) (Int32.ofInt (f 0)) d7 d8 d9 (by omega) (Or.inr ⟨by omega, by rw [amx_1], by rw [amx_1]⟩)
        refine V10L  S ?_ ?_ ?_ ?_ ?_ ?_ ?_ ?_ <;> simp (disch := omega) only [oi_l, oi_n, z_nI, nIA, nIM, nIS, nIlt, nIle, nIeq, nIC, vpI, Nat.add_sub_cancel, Nat.not_le, Nat.not_lt, Nat.not_lt_zero, Nat.le_refl, not_true_eq_false, not_false_eq_true, false_imp_iff, true_imp_iff, forall_const, implies_true, Nat.reduceEqDiff, Nat.reduceLeDiff, Nat.reduceLT, nID, hIx, i13, i14, zADD, fk, hmk] <;> first | omega | exact I' _ _ _
      · have a1 := amx_lt f k q
        have b2 := hf' (amx f k) (by omega)
        have n1 := nI_ne1 (q := amx f k) (by omega)
        by_cases c : f (amx f k) < f k
        · have I' := fun d7 d8 d9 => ih (k + 1) (nI k) (Int32.ofInt (f k)) d7 d8 d9 (by omega) (Or.inr ⟨by omega, by rw [amx_S, if_pos c], by rw [amx_S, if_pos c]⟩)
          have c' : ¬ f k ≤ f (amx f k) := by omega
          refine V10L  S ?_ ?_ ?_ ?_ ?_ ?_ ?_ ?_ <;> simp (disch := omega) only [oi_l, oi_n, z_nI, nIA, nIM, nIS, nIlt, nIle, nIeq, nIC, vpI, Nat.add_sub_cancel, Nat.not_le, Nat.not_lt, Nat.not_lt_zero, Nat.le_refl, not_true_eq_false, not_false_eq_true, false_imp_iff, true_imp_iff, forall_const, implies_true, Nat.reduceEqDiff, Nat.reduceLeDiff, Nat.reduceLT, nID, hIx, i13, i14, zADD, fk, n1, hmk, zLE, zLT, eq_true c, c', Int.not_le, Int.not_lt] <;> first | omega | exact I' _ _ _
        · have I' := fun d7 d8 d9 => ih (k + 1) (nI (amx f k)) (Int32.ofInt (f (amx f k))) d7 d8 d9 (by omega) (Or.inr ⟨by omega, by rw [amx_S, if_neg c], by rw [amx_S, if_neg c]⟩)
          have c' : f k ≤ f (amx f k) := by omega
          refine V10L  S ?_ ?_ ?_ ?_ ?_ ?_ ?_ ?_ <;> simp (disch := omega) only [oi_l, oi_n, z_nI, nIA, nIM, nIS, nIlt, nIle, nIeq, nIC, vpI, Nat.add_sub_cancel, Nat.not_le, Nat.not_lt, Nat.not_lt_zero, Nat.le_refl, not_true_eq_false, not_false_eq_true, false_imp_iff, true_imp_iff, forall_const, implies_true, Nat.reduceEqDiff, Nat.reduceLeDiff, Nat.reduceLT, nID, hIx, i13, i14, zADD, fk, n1, hmk, zLE, zLT, c, eq_true c', Int.not_le, Int.not_lt] <;> first | omega | exact I' _ _ _
  exact V10 S (L m 0 _ _ none none none (by omega) (Or.inl ⟨rfl, rfl⟩))
/-- tellWays -/
theorem c11 {n : Nat} {P : Nat → Nat} (S : SK h) (hn : n ≤ 12) (hP : ∀ k, P k < 42) (h16 : ∀ k, k + 1 < n → zI h 16 (k * 42 + P k) = nI (P (k + 1))) (hw : ∀ j, ∃ w, w < 42 ∧ zI h 16 j = nI w) (k0 : ∀ g, Same [34] h g → (∀ k, k < n → zI g 34 k = nI (P k / 2 + P k % 2 * 100)) → Q none g) : WP 11 0 [some (.ref 12), some (.int (nI n)), some (.int (nI (P 0))), some (.ref 34), none, none] [] h Q := by
  have L : ∀ m k v (g : pm_H), k + m = n → v < 42 → (k < n → v = P k) → Same [34] h g → (∀ t, t < k → zI g 34 t = nI (P t / 2 + P t % 2 * 100)) → WP 11 6 [some (.ref 12), some (.int (nI n)), some (.int (nI (P 0))), some (.ref 34), some (.int (nI v)), some (.int (nI k))] [] g Q := by
    intro m
    induction m with
    | zero =>
      intro k v g hk hv ev sg f
      obtain rfl : k = n := by omega
      have k0' := k0 g sg f
      refine V11L  (sg.SK S) ?_ ?_ ?_ ?_ ?_ <;> simp (disch := omega) only [oi_l, oi_n, z_nI, nIA, nIM, nIS, nIlt, nIle, nIeq, nIC, vpI, Nat.add_sub_cancel, Nat.not_le, Nat.not_lt, Nat.not_lt_zero, Nat.le_refl, not_true_eq_false, not_false_eq_true, false_imp_iff, true_imp_iff, forall_const, implies_true, Nat.reduceEqDiff, Nat.reduceLeDiff, Nat.reduceLT] <;> first | omega | exact k0'
    | succ m ih =>
      intro k v g hk hv ev sg f
      obtain rfl := ev (by omega)
      have hv' := hP k
      obtain ⟨w, w1, w2⟩ : ∃ w, w < 42 ∧ zI g 16 (k * 42 + P k) = nI w := by rw [sg.1 16 (by decide)]; exact hw _
      have N34 : zN g 34 = 12 := by rw [sg.2.2.1]; exact S.N 34
      refine V11L  (sg.SK S) ?_ ?_ ?_ ?_ ?_ <;> simp (disch := omega) only [oi_l, oi_n, z_nI, nIA, nIM, nIS, nIlt, nIle, nIeq, nIC, vpI, Nat.add_sub_cancel, Nat.not_le, Nat.not_lt, Nat.not_lt_zero, Nat.le_refl, not_true_eq_false, not_false_eq_true, false_imp_iff, true_imp_iff, forall_const, implies_true, Nat.reduceEqDiff, Nat.reduceLeDiff, Nat.reduceLT, nID, N34, w2, show ¬ n ≤ k by omega, show ¬ 12 ≤ k by omega] <;> (try omega)
      refine ih (k + 1) w _ (by omega) w1 (fun hk1 => ?_) (sg.I 34 _ _ (by decide)) (fun t ht => ?_)
      · have := h16 k hk1
        rw [← sg.1 16 (by decide), w2] at this
        exact (nI_eq (by omega) (by have := hP (k + 1); omega)).mp this
      · simp only [zI_yI, va_upA, if_true]
        by_cases ht' : t = k
        · rw [if_pos ht', ht']; exact congrArg nI (by omega)
        · rw [if_neg ht']; exact f t (by omega)
  refine V11 S ?_
  exact L n 0 (P 0) h (by omega) (hP 0) (fun _ => rfl) Same.rf (fun t ht => absurd ht (Nat.not_lt_zero _))
theorem Same.A {L : List Nat} {h g : pm_H} (k : Same L h g) (a : Nat) (f : Nat → Int32) (ha : a ∈ L) : Same L h (yA g a f) :=
  ⟨fun b hb => (zI_yAn g _ (fun e => hb (by rw [e]; exact ha))).trans (k.1 b hb), k.2.1, k.2.2.1, k.2.2.2.1, k.2.2.2.2.1, k.2.2.2.2.2.1, k.2.2.2.2.2.2⟩
def lsB (B : Bk) (c k : Nat) : List Nat := (stL B (ptL B c k).1).2
theorem sF_eq {ls : Nat → List Nat} {n m j p v : Nat} (hq : n - 2 - j = p) : sF ls n m j v = fun w => sV (ls p) (tw v) (v / 2) (ls (p + 1)) (tw w) (w / 2) + sW ls n m j w := by
  funext w
  unfold sF sval
  rw [hq]
/-- BestShifts.search -/
theorem c8 {q c s n m : Nat} {B : Bk} (S : SK h) (bo : bk_ok B) (hc : c < B.2.length) (hq : atQ h q B c) (hs : s ≤ 20) (hn : n = (clL B c).2.length) (hm : m = 2 * s + 2) (hw : ∀ j, ∃ w, w < 42 ∧ zI h 16 j = nI w)
    (k0 : ∀ g, Same [11, 13, 14, 15, 16, 34] h g → (∀ j, ∃ w, w < 42 ∧ zI g 16 j = nI w) → (∀ k, k < n → zI g 34 k = nI (sP (lsB B c) n m k / 2 + sP (lsB B c) n m k % 2 * 100)) → Q (some (.int (Int32.ofInt (sW (lsB B c) n m (n - 1) (sP (lsB B c) n m 0))))) g) : WP 8 0 [some (.ref 12), some (.ref q), some (.int (nI s)), some (.ref 11), some (.ref 34), none, none, none] [] h Q := by
  obtain ⟨u1, u2, u3, u4⟩ := bk_cl bo hc
  rw [← hn] at u2 u3 u4
  have ok : ∀ k, k < n → okS (lsB B c k) := fun k hk => (bk_st bo (u4 k hk).1).1
  have hm0 : 0 < m := by omega
  -- the first of the best ways
  have N : ∀ mm k (g : pm_H), k + mm = m → 1 ≤ k → Same [11, 13, 14, 15, 16, 34] h g → (∀ j, ∃ w, w < 42 ∧ zI g 16 j = nI w) → (∀ t, t < m → zI g 15 t = Int32.ofInt (sW (lsB B c) n m (n - 1) t)) → (∀ k v, k + 1 < n → v < m → zI g 16 (k * 42 + v) = nI (amx (sF (lsB B c) n m (n - 2 - k) v) m)) →
      WP 8 109 [some (.ref 12), some (.ref q), some (.int (nI s)), some (.ref 11), some (.ref 34), some (.int (nI m)), some (.int (nI (amx (sW (lsB B c) n m (n - 1)) k))), some (.int (nI k))] [] g Q := by
    intro mm
    induction mm with
    | zero =>
      intro k g hk h1 sg w16 e15 e16
      have S' := sg.SK S
      obtain ⟨q1, q2, q3, q4, -⟩ := hq.keep (sg.D (by decide))
      rw [← hn] at q4
      obtain rfl : k = m := by omega
      refine V8N  S' ?_ ?_ ?_ ?_ ?_ ?_ <;> simp (disch := omega) only [oi_l, oi_n, z_nI, nIA, nIM, nIS, nIlt, nIle, nIeq, nIC, vpI, Nat.add_sub_cancel, Nat.not_le, Nat.not_lt, Nat.not_lt_zero, Nat.le_refl, not_true_eq_false, not_false_eq_true, false_imp_iff, true_imp_iff, forall_const, implies_true, Nat.reduceEqDiff, Nat.reduceLeDiff, Nat.reduceLT, q2, q4] <;> (try omega)
      refine c11 (P := sP (lsB B c) n k) S' (by omega) (fun j => by have := sP_lt (lsB B c) n hm0 j; omega) (fun j hj => e16 j _ hj (sP_lt _ _ hm0 j)) w16 (fun g2 s2 f => ?_)
      have s3 : Same [11, 13, 14, 15, 16, 34] h g2 := (sg.tr s2).sub (by decide)
      have l0 := sP_lt (lsB B c) n hm0 0
      have e := e15 _ l0
      rw [← s2.1 15 (by decide)] at e
      have l0' : amx (sW (lsB B c) n k (n - 1)) k < k := l0
      have e' : zI g2 15 (amx (sW (lsB B c) n k (n - 1)) k) = Int32.ofInt (sW (lsB B c) n k (n - 1) (sP (lsB B c) n k 0)) := e
      have k0' := k0 g2 s3 (by rw [s2.1 16 (by decide)]; exact w16) f
      refine V8r  (s3.SK S) ?_ ?_ <;> simp (disch := omega) only [oi_l, oi_n, z_nI, nIA, nIM, nIS, nIlt, nIle, nIeq, nIC, vpI, Nat.add_sub_cancel, Nat.not_le, Nat.not_lt, Nat.not_lt_zero, Nat.le_refl, not_true_eq_false, not_false_eq_true, false_imp_iff, true_imp_iff, forall_const, implies_true, Nat.reduceEqDiff, Nat.reduceLeDiff, Nat.reduceLT, e'] <;> first | omega | exact k0'
    | succ mm ih =>
      intro k g hk h1 sg w16 e15 e16
      have S' := sg.SK S
      have a1 := amx_lt (sW (lsB B c) n m (n - 1)) k (by omega)
      have y1 := e15 k (by omega)
      have y2 := e15 _ (show amx (sW (lsB B c) n m (n - 1)) k < m by omega)
      have z1 := sW_b ok hm0 (n - 1) k (by omega)
      have z2 := sW_b ok hm0 (n - 1) (amx (sW (lsB B c) n m (n - 1)) k) (by omega)
      have I' := ih (k + 1) g (by omega) (by omega) sg w16 e15 e16
      have hmk : ¬ m ≤ k := by omega
      by_cases cc : sW (lsB B c) n m (n - 1) (amx (sW (lsB B c) n m (n - 1)) k) < sW (lsB B c) n m (n - 1) k
      · rw [amx_S, if_pos cc] at I'
        have c' : ¬ sW (lsB B c) n m (n - 1) k ≤ sW (lsB B c) n m (n - 1) (amx (sW (lsB B c) n m (n - 1)) k) := by omega
        refine V8N  S' ?_ ?_ ?_ ?_ ?_ ?_ <;> simp (disch := omega) only [oi_l, oi_n, z_nI, nIA, nIM, nIS, nIlt, nIle, nIeq, nIC, vpI, Nat.add_sub_cancel, Nat.not_le, Nat.not_lt, Nat.not_lt_zero, Nat.le_refl, not_true_eq_false, not_false_eq_true, false_imp_iff, true_imp_iff, forall_const, implies_true, Nat.reduceEqDiff, Nat.reduceLeDiff, Nat.reduceLT, y1, y2, hmk, zLE, zLT, eq_true cc, c', Int.not_le, Int.not_lt] <;> first | omega | exact I'
      · rw [amx_S, if_neg cc] at I'
        have c' : sW (lsB B c) n m (n - 1) k ≤ sW (lsB B c) n m (n - 1) (amx (sW (lsB B c) n m (n - 1)) k) := by omega
        refine V8N  S' ?_ ?_ ?_ ?_ ?_ ?_ <;> simp (disch := omega) only [oi_l, oi_n, z_nI, nIA, nIM, nIS, nIlt, nIle, nIeq, nIC, vpI, Nat.add_sub_cancel, Nat.not_le, Nat.not_lt, Nat.not_lt_zero, Nat.le_refl, not_true_eq_false, not_false_eq_true, false_imp_iff, true_imp_iff, forall_const, implies_true, Nat.reduceEqDiff, Nat.reduceLeDiff, Nat.reduceLT, y1, y2, hmk, zLE, zLT, cc, eq_true c', Int.not_le, Int.not_lt] <;> first | omega | exact I'
  -- from the last part to the first
  have L : ∀ r (g : pm_H) d7 pp, r ≤ n - 1 → pp = Int32.ofInt ((r : Int) - 1) → Same [11, 13, 14, 15, 16, 34] h g → (∀ j, ∃ w, w < 42 ∧ zI g 16 j = nI w) → (∀ t, t < m → zI g 15 t = Int32.ofInt (sW (lsB B c) n m (n - 1 - r) t)) → (∀ k v, r ≤ k → k + 1 < n → v < m → zI g 16 (k * 42 + v) = nI (amx (sF (lsB B c) n m (n - 2 - k) v) m)) →
      WP 8 23 [some (.ref 12), some (.ref q), some (.int (nI s)), some (.ref 11), some (.ref 34), some (.int (nI m)), some (.int pp), d7] [] g Q := by
    intro r
    induction r with
    | zero =>
      intro g d7 pp hr ep sg w16 e15 e16
      have c0 : pp < nI 0 := by rw [ep]; decide
      have N' := N (m - 1) 1 g (by omega) (by omega) sg w16 e15 (fun k v => e16 k v (Nat.zero_le _))
      rw [amx_1] at N'
      refine V8L  (sg.SK S) ?_ ?_ <;> simp (disch := omega) only [oi_l, oi_n, z_nI, nIA, nIM, nIS, nIlt, nIle, nIeq, nIC, vpI, Nat.add_sub_cancel, Nat.not_le, Nat.not_lt, Nat.not_lt_zero, Nat.le_refl, not_true_eq_false, not_false_eq_true, false_imp_iff, true_imp_iff, forall_const, implies_true, Nat.reduceEqDiff, Nat.reduceLeDiff, Nat.reduceLT, c0] <;> first | omega | exact N'
    | succ r ih =>
      intro g d7 pp hr ep sg w16 e15 e16
      obtain rfl : pp = nI r := by rw [ep]; exact zI_q r
      have S' := sg.SK S
      have hq' := hq.keep (sg.D (by decide))
      obtain ⟨q1, q2, q3, q4, pa, q5, q6, q7, q8, q9⟩ := hq'
      obtain ⟨w1, x1, a1, a2, ⟨p1, a3, a4⟩, a5, a6, a7⟩ := q9 r (by omega)
      obtain ⟨w2, x2, b1, b2, ⟨p2, b3, b4⟩, b5, b6, b7⟩ := q9 (r + 1) (by omega)
      have B28 : WP 8 28 [some (.ref 12), some (.ref q), some (.int (nI s)), some (.ref 11), some (.ref 34), some (.int (nI m)), some (.int (nI r)), d7] [] g Q := by
        refine B8_28 (b2 := 15) (b4 := 14) (b8 := pa) (b11 := w1) (b14 := p1) (b17 := w2) (b20 := p2) (S'.T 12) (S'.R 12 2) (S'.R 12 1) ⟨Or.inl (S'.T 15), (S'.T 14).trans (S'.T 15).symm, by decide, by decide, by decide, by rw [S'.N 15]; decide, by rw [S'.N 14]; decide⟩ q2 q5 ⟨Or.inr (Or.inr q7), by rw [q8, vpI (by omega) (by omega)]; omega⟩ (by rw [nIC (by omega)]; exact x1) a2 a3 ⟨Or.inr (Or.inr q7), by rw [q8]; show vp_in (nI r + nI 1) 12; rw [nIA, vpI (by omega) (by omega)]; omega⟩ (by show zR g pa (nI r + nI 1).toNatClampNeg = _; rw [nIA, nIC (by omega)]; exact x2) b2 b3 ?_
        have s2 : Same [11, 13, 14, 15, 16, 34] h (yA g 14 (va_cpy (zI g 15) (zI g 14) 0 0 42)) := sg.A 14 _ (by decide)
        have t2 : Same [14] g (yA g 14 (va_cpy (zI g 15) (zI g 14) 0 0 42)) := Same.rf.A 14 _ (by decide)
        have e14 : ∀ t, t < m → zI (yA g 14 (va_cpy (zI g 15) (zI g 14) 0 0 42)) 14 t = Int32.ofInt (sW (lsB B c) n m (n - 2 - r) t) := fun t ht => by
          rw [zI_yAs]
          show (if 0 ≤ t ∧ t < 0 + 42 then zI g 15 (0 + (t - 0)) else zI g 14 t) = _
          rw [if_pos (by omega), show 0 + (t - 0) = t by omega, e15 t ht, show n - 1 - (r + 1) = n - 2 - r by omega]
        have hr1 := u4 r (by omega)
        have hr2 := u4 (r + 1) (by omega)
        refine c9 (s2.SK S) hs (a4.keep (t2.D (by decide))) (b4.keep (t2.D (by decide))) (bk_st bo hr1.1).1 (bk_st bo hr2.1).1 (fun g3 s3 e13 => ?_)
        have s4 : Same [11, 13, 14, 15, 16, 34] h g3 := (s2.tr s3).sub (by decide)
        have W : ∀ mm v (g4 : pm_H), v + mm = m → Same [11, 13, 14, 15, 16, 34] h g4 → zI g4 13 = zI g3 13 → zI g4 14 = zI g3 14 → (∀ j, ∃ w, w < 42 ∧ zI g4 16 j = nI w) → (∀ t, t < v → zI g4 15 t = Int32.ofInt (sW (lsB B c) n m (n - 1 - r) t)) → (∀ k v', r < k → k + 1 < n → v' < m → zI g4 16 (k * 42 + v') = nI (amx (sF (lsB B c) n m (n - 2 - k) v') m)) → (∀ v', v' < v → zI g4 16 (r * 42 + v') = nI (amx (sF (lsB B c) n m (n - 2 - r) v') m)) →
            WP 8 74 [some (.ref 12), some (.ref q), some (.int (nI s)), some (.ref 11), some (.ref 34), some (.int (nI m)), some (.int (nI r)), some (.int (nI v))] [] g4 Q := by
          intro mm
          induction mm with
          | zero =>
            intro v g4 hv s5 r13 r14 w4 f15 f16 f16'
            obtain rfl : v = m := by omega
            have I' := ih g4 (some (.int (nI v))) (nI r + Int32.ofInt (-1)) (by omega) (nI_p r) s5 w4 f15 (fun k v' h1 h2 h3 => by
              by_cases e : k = r
              · rw [e]; exact f16' v' h3
              · exact f16 k v' (by omega) h2 h3)
            refine V8M  (s5.SK S) ?_ ?_ <;> simp (disch := omega) only [oi_l, oi_n, z_nI, nIA, nIM, nIS, nIlt, nIle, nIeq, nIC, vpI, Nat.add_sub_cancel, Nat.not_le, Nat.not_lt, Nat.not_lt_zero, Nat.le_refl, not_true_eq_false, not_false_eq_true, false_imp_iff, true_imp_iff, forall_const, implies_true, Nat.reduceEqDiff, Nat.reduceLeDiff, Nat.reduceLT] <;> first | omega | exact I'
          | succ mm ihw =>
            intro v g4 hv s5 r13 r14 w4 f15 f16 f16'
            have S5 := s5.SK S
            refine V8M  S5 ?_ ?_ <;> simp (disch := omega) only [oi_l, oi_n, z_nI, nIA, nIM, nIS, nIlt, nIle, nIeq, nIC, vpI, Nat.add_sub_cancel, Nat.not_le, Nat.not_lt, Nat.not_lt_zero, Nat.le_refl, not_true_eq_false, not_false_eq_true, false_imp_iff, true_imp_iff, forall_const, implies_true, Nat.reduceEqDiff, Nat.reduceLeDiff, Nat.reduceLT, show ¬ m ≤ v by omega] <;> (try omega)
            have ef := sF_eq (ls := lsB B c) (n := n) (m := m) (j := n - 2 - r) (p := r) (v := v) (by omega)
            refine c10 (l1 := lsB B c r) (l2 := lsB B c (r + 1)) (Wb := sW (lsB B c) n m (n - 2 - r)) S5 (by omega) hs hm (by omega) (by rw [r13]; exact e13) (fun t ht => by rw [r14, s3.1 14 (by decide)]; exact e14 t ht) (fun w hw' => ?_) (fun g6 s6 f15' f16n => ?_)
            · have := sF_b ok hm0 u3 (j := n - 2 - r) (by omega) v w
              rw [ef] at this
              exact this
            · rw [← ef] at f15' f16n
              have s7 : Same [11, 13, 14, 15, 16, 34] h g6 := (s5.tr s6).sub (by decide)
              refine V8c (s7.SK S) ?_
              simp (disch := omega) only [oi_l, oi_n, z_nI, nIA, nIM, nIS, nIlt, nIle, nIeq, nIC, vpI, Nat.add_sub_cancel, Nat.not_le, Nat.not_lt, Nat.not_lt_zero, Nat.le_refl, not_true_eq_false, not_false_eq_true, false_imp_iff, true_imp_iff, forall_const, implies_true, Nat.reduceEqDiff, Nat.reduceLeDiff, Nat.reduceLT]
              refine ihw (v + 1) g6 (by omega) s7 (by rw [s6.1 13 (by decide)]; exact r13) (by rw [s6.1 14 (by decide)]; exact r14) (fun j => ?_) (fun t ht => ?_) (fun k v' h1 h2 h3 => ?_) (fun v' h1 => ?_)
              · rw [f16n, va_upA]
                by_cases e : j = r * 42 + v
                · rw [if_pos e]; exact ⟨_, by have := amx_lt (sF (lsB B c) n m (n - 2 - r) v) m hm0; omega, rfl⟩
                · rw [if_neg e]; exact w4 j
              · rw [f15', va_upA]
                by_cases e : t = v
                · rw [if_pos e, e, show n - 1 - r = (n - 2 - r) + 1 by omega, sW_S]
                · rw [if_neg e]; exact f15 t (by omega)
              · rw [f16n, va_upA, if_neg (by omega)]; exact f16 k v' h1 h2 h3
              · rw [f16n, va_upA]
                by_cases e : v' = v
                · rw [if_pos (by omega), e]
                · rw [if_neg (by omega)]; exact f16' v' (by omega)
        have r16 : zI g3 16 = zI g 16 := (s3.1 16 (by decide)).trans (zI_yAn g _ (by decide))
        have W' := W m 0 g3 (by omega) s4 rfl rfl (by rw [r16]; exact w16) (fun t ht => absurd ht (Nat.not_lt_zero _)) (fun k v' h1 h2 h3 => by rw [r16]; exact e16 k v' (by omega) h2 h3) (fun v' h1 => absurd h1 (Nat.not_lt_zero _))
        exact V8b (s4.SK S) W'
      refine V8L  S' ?_ ?_ <;> simp (disch := omega) only [oi_l, oi_n, z_nI, nIA, nIM, nIS, nIlt, nIle, nIeq, nIC, vpI, Nat.add_sub_cancel, Nat.not_le, Nat.not_lt, Nat.not_lt_zero, Nat.le_refl, not_true_eq_false, not_false_eq_true, false_imp_iff, true_imp_iff, forall_const, implies_true, Nat.reduceEqDiff, Nat.reduceLeDiff, Nat.reduceLT] <;> first | omega | exact B28
  obtain ⟨q1, q2, q3, q4, -⟩ := id hq
  rw [← hn] at q4
  refine V8 S (c178 S (fun g sg f => ?_))
  have em : Int32.ofInt 2 * (nI s + Int32.ofInt 1) = nI m := by
    show nI 2 * (nI s + nI 1) = _
    rw [nIA, nIM, hm]; exact congrArg nI (by omega)
  rw [em]
  obtain ⟨q1', q2', q3', q4', -⟩ := hq.keep (sg.D (by decide))
  refine V8a (sg.SK S) q2' ?_
  refine L (n - 1) g none _ (Nat.le_refl _) ?_ (sg.sub (by decide)) (by rw [sg.1 16 (by decide)]; exact hw) (fun t ht => ?_) (fun k v h1 h2 => by omega)
  · rw [q4', ← hn, ← oi_n, ← Int32.ofInt_sub]; exact congrArg Int32.ofInt (by omega)
  · rw [f t (by omega), Nat.sub_self]; rfl
end SHC

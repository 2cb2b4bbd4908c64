/-! BEST SHIFTS of the model -/
theorem V161 {h : pm_H} {Q : Option Value → pm_H → Prop} {c : Nat} {k : Nat} {v : Nat} {w : Nat} (S : SK h) (g1 : vp_in (((Int32.ofInt 12) * (nI c)) + (nI k)) 72) (g3 : (¬ ((nI v) - (nI v) / (Int32.ofInt 2) * (Int32.ofInt 2)) = (Int32.ofInt 1)) → vp_in ((((Int32.ofInt 12) * (nI c)) + (nI k)) + (Int32.ofInt 1)) 72) (k5 : (¬ ((nI v) - (nI v) / (Int32.ofInt 2) * (Int32.ofInt 2)) = (Int32.ofInt 1)) → (¬ ((nI w) - (nI w) / (Int32.ofInt 2) * (Int32.ofInt 2)) = (Int32.ofInt 1)) → WP 155 0 [some (.ref 35), some (.int (zI h 41 ((((Int32.ofInt 12) * (nI c)) + (nI k))).toNatClampNeg)), some (.int ((nI v) / (Int32.ofInt 2))), some (.int (Int32.ofInt 0)), some (.int (zI h 41 (((((Int32.ofInt 12) * (nI c)) + (nI k)) + (Int32.ofInt 1))).toNatClampNeg)), some (.int ((nI w) / (Int32.ofInt 2))), some (.int (Int32.ofInt 0)), none, none, none, none, none] [] h (fun v1 h1 => WP 161 60 [some (.ref 35), some (.int (nI c)), some (.int (nI k)), some (.int (nI v)), some (.int (nI w))] (v1.toList ++ []) h1 Q)) (k6 : (¬ ((nI v) - (nI v) / (Int32.ofInt 2) * (Int32.ofInt 2)) = (Int32.ofInt 1)) → (((nI w) - (nI w) / (Int32.ofInt 2) * (Int32.ofInt 2)) = (Int32.ofInt 1)) → WP 155 0 [some (.ref 35), some (.int (zI h 41 ((((Int32.ofInt 12) * (nI c)) + (nI k))).toNatClampNeg)), some (.int ((nI v) / (Int32.ofInt 2))), some (.int (Int32.ofInt 0)), some (.int (zI h 41 (((((Int32.ofInt 12) * (nI c)) + (nI k)) + (Int32.ofInt 1))).toNatClampNeg)), some (.int ((nI w) / (Int32.ofInt 2))), some (.int (Int32.ofInt 1)), none, none, none, none, none] [] h (fun v1 h1 => WP 161 60 [some (.ref 35), some (.int (nI c)), some (.int (nI k)), some (.int (nI v)), some (.int (nI w))] (v1.toList ++ []) h1 Q)) (g7 : (((nI v) - (nI v) / (Int32.ofInt 2) * (Int32.ofInt 2)) = (Int32.ofInt 1)) → vp_in ((((Int32.ofInt 12) * (nI c)) + (nI k)) + (Int32.ofInt 1)) 72) (k9 : (((nI v) - (nI v) / (Int32.ofInt 2) * (Int32.ofInt 2)) = (Int32.ofInt 1)) → (¬ ((nI w) - (nI w) / (Int32.ofInt 2) * (Int32.ofInt 2)) = (Int32.ofInt 1)) → WP 155 0 [some (.ref 35), some (.int (zI h 41 ((((Int32.ofInt 12) * (nI c)) + (nI k))).toNatClampNeg)), some (.int ((nI v) / (Int32.ofInt 2))), some (.int (Int32.ofInt 1)), some (.int (zI h 41 (((((Int32.ofInt 12) * (nI c)) + (nI k)) + (Int32.ofInt 1))).toNatClampNeg)), some (.int ((nI w) / (Int32.ofInt 2))), some (.int (Int32.ofInt 0)), none, none, none, none, none] [] h (fun v1 h1 => WP 161 60 [some (.ref 35), some (.int (nI c)), some (.int (nI k)), some (.int (nI v)), some (.int (nI w))] (v1.toList ++ []) h1 Q)) (k10 : (((nI v) - (nI v) / (Int32.ofInt 2) * (Int32.ofInt 2)) = (Int32.ofInt 1)) → (((nI w) - (nI w) / (Int32.ofInt 2) * (Int32.ofInt 2)) = (Int32.ofInt 1)) → WP 155 0 [some (.ref 35), some (.int (zI h 41 ((((Int32.ofInt 12) * (nI c)) + (nI k))).toNatClampNeg)), some (.int ((nI v) / (Int32.ofInt 2))), some (.int (Int32.ofInt 1)), some (.int (zI h 41 (((((Int32.ofInt 12) * (nI c)) + (nI k)) + (Int32.ofInt 1))).toNatClampNeg)), some (.int ((nI w) / (Int32.ofInt 2))), some (.int (Int32.ofInt 1)), none, none, none, none, none] [] h (fun v1 h1 => WP 161 60 [some (.ref 35), some (.int (nI c)), some (.int (nI k)), some (.int (nI v)), some (.int (nI w))] (v1.toList ++ []) h1 Q)) : WP 161 0 [some (.ref 35), some (.int (nI c)), some (.int (nI k)), some (.int (nI v)), some (.int (nI w))] [] h Q :=
  B161_0 (S.T 35) (S.R 35 23) ⟨(S.T 41), (S.bd 41 g1)⟩ (by decide) (fun c2 => B161_26 (B161_27 (S.T 35) (S.R 35 23) ⟨(S.T 41), (S.bd 41 (g3 c2))⟩ (by decide) (fun c4 => B161_56 (B161_57 (S.T 35) (k5 c2 c4))) (fun c4 => B161_52 (B161_57 (S.T 35) (k6 c2 c4))))) (fun c2 => B161_22 (B161_27 (S.T 35) (S.R 35 23) ⟨(S.T 41), (S.bd 41 (g7 c2))⟩ (by decide) (fun c8 => B161_56 (B161_57 (S.T 35) (k9 c2 c8))) (fun c8 => B161_52 (B161_57 (S.T 35) (k10 c2 c8)))))
theorem V161r {h : pm_H} {Q : Option Value → pm_H → Prop} {c : Nat} {k : Nat} {v : Nat} {w : Nat} (S : SK h) (k1 : Q (some (.int (((Int32.ofInt 3) * (zI h 35 64)) - (zI h 35 63)))) h) : WP 161 60 [some (.ref 35), some (.int (nI c)), some (.int (nI k)), some (.int (nI v)), some (.int (nI w))] [] h Q :=
  B161_60 (S.T 35) k1
theorem V162 {h : pm_H} {Q : Option Value → pm_H → Prop} {x1 : Int32} {x2 : Int32} {d3 : Option Value} {d4 : Option Value} {d5 : Option Value} {d6 : Option Value} {d7 : Option Value} {d8 : Option Value} (S : SK h) (k3 : (x1 < 0) → Q (some (.int (Int32.ofInt (-1)))) (yI (yI (yI h 35 1 (Int32.ofInt 0)) 35 0 (Int32.ofInt 0)) 35 0 (Int32.ofInt 1))) (k6 : (¬ x1 < 0) → ((zI h 35 16) ≤ x1) → Q (some (.int (Int32.ofInt (-1)))) (yI (yI (yI h 35 1 (Int32.ofInt 0)) 35 0 (Int32.ofInt 0)) 35 0 (Int32.ofInt 1))) (k9 : (¬ x1 < 0) → (¬ (zI h 35 16) ≤ x1) → (x2 < 0) → Q (some (.int (Int32.ofInt (-1)))) (yI (yI (yI h 35 1 (Int32.ofInt 0)) 35 0 (Int32.ofInt 0)) 35 0 (Int32.ofInt 2))) (g11 : (¬ x1 < 0) → (¬ (zI h 35 16) ≤ x1) → (¬ x2 < 0) → (x2 ≤ (Int32.ofInt 20)) → vp_in x1 6) (k12 : (¬ x1 < 0) → (¬ (zI h 35 16) ≤ x1) → (¬ x2 < 0) → (x2 ≤ (Int32.ofInt 20)) → WP 162 57 [some (.ref 35), some (.int x1), some (.int x2), some (.int (((Int32.ofInt 2) * x2) + (Int32.ofInt 2))), some (.int (zI h 40 (x1).toNatClampNeg)), some (.int (Int32.ofInt 0)), d6, d7, d8] [] (yI (yI h 35 1 (Int32.ofInt 0)) 35 0 (Int32.ofInt 0)) Q) (k13 : (¬ x1 < 0) → (¬ (zI h 35 16) ≤ x1) → (¬ x2 < 0) → (¬ x2 ≤ (Int32.ofInt 20)) → Q (some (.int (Int32.ofInt (-1)))) (yI (yI (yI h 35 1 (Int32.ofInt 0)) 35 0 (Int32.ofInt 0)) 35 0 (Int32.ofInt 2))) : WP 162 0 [some (.ref 35), some (.int x1), some (.int x2), d3, d4, d5, d6, d7, d8] [] h Q :=
  B162_0 (S.T 35) (B152_0 (fun c1 => B152_16 (B152_17 oi0 (B162_15 (fun q => absurd (by decide) q) (fun _ => B162_18 (S.T 35) (B123_0 (S.T 35) (B162_23 (k3 c1))))))) (fun c1 => B152_4 (S.T 35) (fun c4 => B152_16 (B152_17 oi0 (B162_15 (fun q => absurd (by decide) q) (fun _ => B162_18 (S.T 35) (B123_0 (S.T 35) (B162_23 (k6 c1 c4))))))) (fun c4 => B152_12 (B152_17 oi1 (B162_15 (fun _ => B162_24 (fun c8 => B162_34 (S.T 35) (B123_0 (S.T 35) (B162_39 (k9 c1 c4 c8)))) (fun c8 => B162_28 (fun c10 => B162_40 (S.T 35) (S.R 35 22) ⟨(S.T 40), (S.bd 40 (g11 c1 c4 c8 c10))⟩ (k12 c1 c4 c8 c10)) (fun c10 => B162_34 (S.T 35) (B123_0 (S.T 35) (B162_39 (k13 c1 c4 c8 c10)))))) (fun q => absurd q (by decide)))))))
theorem V162a {h : pm_H} {Q : Option Value → pm_H → Prop} {d6 : Option Value} {d7 : Option Value} {d8 : Option Value} {c : Nat} {s : Nat} {m : Nat} {n : Nat} {v : Nat} (S : SK h) (k2 : ((nI m) ≤ (nI v)) → WP 162 91 [some (.ref 35), some (.int (nI c)), some (.int (nI s)), some (.int (nI m)), some (.int (nI n)), some (.int ((nI n) - (Int32.ofInt 2))), d6, d7, d8] [] h Q) (g3 : (¬ (nI m) ≤ (nI v)) → vp_in (((Int32.ofInt 42) * ((nI n) - (Int32.ofInt 1))) + (nI v)) 546) (k4 : (¬ (nI m) ≤ (nI v)) → WP 162 57 [some (.ref 35), some (.int (nI c)), some (.int (nI s)), some (.int (nI m)), some (.int (nI n)), some (.int ((nI v) + (Int32.ofInt 1))), d6, d7, d8] [] (yI h 68 ((((Int32.ofInt 42) * ((nI n) - (Int32.ofInt 1))) + (nI v))).toNatClampNeg (Int32.ofInt 0)) Q) : WP 162 57 [some (.ref 35), some (.int (nI c)), some (.int (nI s)), some (.int (nI m)), some (.int (nI n)), some (.int (nI v)), d6, d7, d8] [] h Q :=
  B162_57 (fun c1 => B162_85 (k2 c1)) (fun c1 => B162_63 (S.T 35) (S.R 35 55) ⟨(S.T 68), (S.bd 68 (g3 c1))⟩ (k4 c1))
theorem V162b {h : pm_H} {Q : Option Value → pm_H → Prop} {kk : Int32} {d6 : Option Value} {d7 : Option Value} {d8 : Option Value} {c : Nat} {s : Nat} {m : Nat} {n : Nat} (S : SK h) (k2 : (kk < 0) → WP 162 192 [some (.ref 35), some (.int (nI c)), some (.int (nI s)), some (.int (nI m)), some (.int (nI n)), some (.int (Int32.ofInt 0)), some (.int (Int32.ofInt 1)), d7, d8] [] h Q) (k3 : (¬ kk < 0) → WP 162 99 [some (.ref 35), some (.int (nI c)), some (.int (nI s)), some (.int (nI m)), some (.int (nI n)), some (.int kk), some (.int (Int32.ofInt 0)), d7, d8] [] h Q) : WP 162 91 [some (.ref 35), some (.int (nI c)), some (.int (nI s)), some (.int (nI m)), some (.int (nI n)), some (.int kk), d6, d7, d8] [] h Q :=
  B162_91 (fun c1 => B162_186 (k2 c1)) (fun c1 => B162_96 (k3 c1))
theorem V162c {h : pm_H} {Q : Option Value → pm_H → Prop} {d7 : Option Value} {d8 : Option Value} {c : Nat} {s : Nat} {m : Nat} {n : Nat} {k : Nat} {v : Nat} (S : SK h) (k2 : ((nI m) ≤ (nI v)) → WP 162 91 [some (.ref 35), some (.int (nI c)), some (.int (nI s)), some (.int (nI m)), some (.int (nI n)), some (.int ((nI k) + (Int32.ofInt (-1)))), some (.int (nI v)), d7, d8] [] h Q) (k3 : (¬ (nI m) ≤ (nI v)) → WP 162 113 [some (.ref 35), some (.int (nI c)), some (.int (nI s)), some (.int (nI m)), some (.int (nI n)), some (.int (nI k)), some (.int (nI v)), some (.int (Int32.ofInt (-1000000))), some (.int (Int32.ofInt 0))] [] h Q) : WP 162 99 [some (.ref 35), some (.int (nI c)), some (.int (nI s)), some (.int (nI m)), some (.int (nI n)), some (.int (nI k)), some (.int (nI v)), d7, d8] [] h Q :=
  B162_99 (fun c1 => B162_180 (k2 c1)) (fun c1 => B162_105 (k3 c1))
theorem V162d {h : pm_H} {Q : Option Value → pm_H → Prop} {mo : Int32} {c : Nat} {s : Nat} {m : Nat} {n : Nat} {k : Nat} {v : Nat} {w : Nat} (S : SK h) (g2 : ((nI m) ≤ (nI w)) → vp_in (((Int32.ofInt 42) * (nI k)) + (nI v)) 546) (k3 : ((nI m) ≤ (nI w)) → WP 162 99 [some (.ref 35), some (.int (nI c)), some (.int (nI s)), some (.int (nI m)), some (.int (nI n)), some (.int (nI k)), some (.int ((nI v) + (Int32.ofInt 1))), some (.int mo), some (.int (nI w))] [] (yI h 68 ((((Int32.ofInt 42) * (nI k)) + (nI v))).toNatClampNeg mo) Q) (k4 : (¬ (nI m) ≤ (nI w)) → WP 161 0 [some (.ref 35), some (.int (nI c)), some (.int (nI k)), some (.int (nI v)), some (.int (nI w))] [] h (fun v1 h1 => WP 162 132 [some (.ref 35), some (.int (nI c)), some (.int (nI s)), some (.int (nI m)), some (.int (nI n)), some (.int (nI k)), some (.int (nI v)), some (.int mo), some (.int (nI w))] (v1.toList ++ [.int mo]) h1 Q)) : WP 162 113 [some (.ref 35), some (.int (nI c)), some (.int (nI s)), some (.int (nI m)), some (.int (nI n)), some (.int (nI k)), some (.int (nI v)), some (.int mo), some (.int (nI w))] [] h Q :=
  B162_113 (fun c1 => B162_159 (S.T 35) (S.R 35 55) ⟨(S.T 68), (S.bd 68 (g2 c1))⟩ (k3 c1)) (fun c1 => B162_119 (S.T 35) (k4 c1))
theorem V162e {h : pm_H} {Q : Option Value → pm_H → Prop} {mo : Int32} {va : Int32} {c : Nat} {s : Nat} {m : Nat} {n : Nat} {k : Nat} {v : Nat} {w : Nat} (S : SK h) (g1 : vp_in (((Int32.ofInt 42) * ((nI k) + (Int32.ofInt 1))) + (nI w)) 546) (k2 : WP 162 113 [some (.ref 35), some (.int (nI c)), some (.int (nI s)), some (.int (nI m)), some (.int (nI n)), some (.int (nI k)), some (.int (nI v)), some (.int (mxI mo (va + (zI h 68 ((((Int32.ofInt 42) * ((nI k) + (Int32.ofInt 1))) + (nI w))).toNatClampNeg)))), some (.int ((nI w) + (Int32.ofInt 1)))] [] h Q) : WP 162 132 [some (.ref 35), some (.int (nI c)), some (.int (nI s)), some (.int (nI m)), some (.int (nI n)), some (.int (nI k)), some (.int (nI v)), some (.int mo), some (.int (nI w))] [.int va, .int mo] h Q :=
  B162_132 (S.T 35) (S.R 35 55) ⟨(S.T 68), (S.bd 68 g1)⟩ (k2)
theorem V162f {h : pm_H} {Q : Option Value → pm_H → Prop} {d7 : Option Value} {d8 : Option Value} {c : Nat} {s : Nat} {m : Nat} {n : Nat} {v : Nat} {w : Nat} (S : SK h) (g2 : ((nI m) ≤ (nI w)) → vp_in (nI v) 546) (k3 : ((nI m) ≤ (nI w)) → WP 162 237 [some (.ref 35), some (.int (nI c)), some (.int (nI s)), some (.int (nI m)), some (.int (nI n)), some (.int (nI v)), some (.int (zI h 68 ((nI v)).toNatClampNeg)), some (.int (Int32.ofInt 0)), d8] [] h Q) (g4 : (¬ (nI m) ≤ (nI w)) → vp_in (nI w) 546) (g5 : (¬ (nI m) ≤ (nI w)) → vp_in (nI v) 546) (k7 : (¬ (nI m) ≤ (nI w)) → ((zI h 68 ((nI w)).toNatClampNeg) ≤ (zI h 68 ((nI v)).toNatClampNeg)) → WP 162 192 [some (.ref 35), some (.int (nI c)), some (.int (nI s)), some (.int (nI m)), some (.int (nI n)), some (.int (nI v)), some (.int ((nI w) + (Int32.ofInt 1))), d7, d8] [] h Q) (k8 : (¬ (nI m) ≤ (nI w)) → (¬ (zI h 68 ((nI w)).toNatClampNeg) ≤ (zI h 68 ((nI v)).toNatClampNeg)) → WP 162 192 [some (.ref 35), some (.int (nI c)), some (.int (nI s)), some (.int (nI m)), some (.int (nI n)), some (.int (nI w)), some (.int ((nI w) + (Int32.ofInt 1))), d7, d8] [] h Q) : WP 162 192 [some (.ref 35), some (.int (nI c)), some (.int (nI s)), some (.int (nI m)), some (.int (nI n)), some (.int (nI v)), some (.int (nI w)), d7, d8] [] h Q :=
  B162_192 (fun c1 => B162_225 (S.T 35) (S.R 35 55) ⟨(S.T 68), (S.bd 68 (g2 c1))⟩ (k3 c1)) (fun c1 => B162_198 (S.T 35) (S.R 35 55) ⟨(S.T 68), (S.bd 68 (g4 c1))⟩ ⟨(S.T 68), (S.bd 68 (g5 c1))⟩ (fun c6 => B162_219 (k7 c1 c6)) (fun c6 => B162_215 (B162_219 (k8 c1 c6))))
theorem V162g {h : pm_H} {Q : Option Value → pm_H → Prop} {all : Int32} {d8 : Option Value} {c : Nat} {s : Nat} {m : Nat} {n : Nat} {v : Nat} {k : Nat} (S : SK h) (k2 : ((nI n) ≤ (nI k)) → Q (some (.int all)) (yI h 35 49 (nI n))) (g3 : (¬ (nI n) ≤ (nI k)) → vp_in (nI k) 12) (k4 : (¬ (nI n) ≤ (nI k)) → WP 162 266 [some (.ref 35), some (.int (nI c)), some (.int (nI s)), some (.int (nI m)), some (.int (nI n)), some (.int (nI v)), some (.int all), some (.int (nI k)), some (.int (Int32.ofInt 0))] [] (yI h 62 ((nI k)).toNatClampNeg (((nI v) / (Int32.ofInt 2)) + ((Int32.ofInt 100) * ((nI v) - (nI v) / (Int32.ofInt 2) * (Int32.ofInt 2))))) Q) : WP 162 237 [some (.ref 35), some (.int (nI c)), some (.int (nI s)), some (.int (nI m)), some (.int (nI n)), some (.int (nI v)), some (.int all), some (.int (nI k)), d8] [] h Q :=
  B162_237 (fun c1 => B162_334 (S.T 35) (k2 c1)) (fun c1 => B162_244 (S.T 35) (S.R 35 48) (by decide) ⟨(S.T 62), (S.bd 62 (g3 c1))⟩ (k4 c1))
theorem V162h {h : pm_H} {Q : Option Value → pm_H → Prop} {all : Int32} {c : Nat} {s : Nat} {m : Nat} {n : Nat} {v : Nat} {k : Nat} {w : Nat} (S : SK h) (k2 : ((nI n) ≤ ((nI k) + (Int32.ofInt 1))) → WP 162 237 [some (.ref 35), some (.int (nI c)), some (.int (nI s)), some (.int (nI m)), some (.int (nI n)), some (.int (nI w)), some (.int all), some (.int ((nI k) + (Int32.ofInt 1))), some (.int (nI w))] [] h Q) (k3 : (¬ (nI n) ≤ ((nI k) + (Int32.ofInt 1))) → WP 161 0 [some (.ref 35), some (.int (nI c)), some (.int (nI k)), some (.int (nI v)), some (.int (nI w))] [] h (fun v1 h1 => WP 162 286 [some (.ref 35), some (.int (nI c)), some (.int (nI s)), some (.int (nI m)), some (.int (nI n)), some (.int (nI v)), some (.int all), some (.int (nI k)), some (.int (nI w))] (v1.toList ++ []) h1 Q)) : WP 162 266 [some (.ref 35), some (.int (nI c)), some (.int (nI s)), some (.int (nI m)), some (.int (nI n)), some (.int (nI v)), some (.int all), some (.int (nI k)), some (.int (nI w))] [] h Q :=
  B162_266 (fun c1 => B162_324 (k2 c1)) (fun c1 => B162_275 (S.T 35) (k3 c1))
theorem V162i {h : pm_H} {Q : Option Value → pm_H → Prop} {all : Int32} {va : Int32} {c : Nat} {s : Nat} {m : Nat} {n : Nat} {v : Nat} {k : Nat} {w : Nat} (S : SK h) (g1 : vp_in (((Int32.ofInt 42) * ((nI k) + (Int32.ofInt 1))) + (nI w)) 546) (g2 : vp_in (((Int32.ofInt 42) * (nI k)) + (nI v)) 546) (k4 : ((va + (zI h 68 ((((Int32.ofInt 42) * ((nI k) + (Int32.ofInt 1))) + (nI w))).toNatClampNeg)) = (zI h 68 ((((Int32.ofInt 42) * (nI k)) + (nI v))).toNatClampNeg)) → WP 162 237 [some (.ref 35), some (.int (nI c)), some (.int (nI s)), some (.int (nI m)), some (.int (nI n)), some (.int (nI w)), some (.int all), some (.int ((nI k) + (Int32.ofInt 1))), some (.int (nI w))] [] h Q) (k5 : (¬ (va + (zI h 68 ((((Int32.ofInt 42) * ((nI k) + (Int32.ofInt 1))) + (nI w))).toNatClampNeg)) = (zI h 68 ((((Int32.ofInt 42) * (nI k)) + (nI v))).toNatClampNeg)) → WP 162 266 [some (.ref 35), some (.int (nI c)), some (.int (nI s)), some (.int (nI m)), some (.int (nI n)), some (.int (nI v)), some (.int all), some (.int (nI k)), some (.int ((nI w) + (Int32.ofInt 1)))] [] h Q) : WP 162 286 [some (.ref 35), some (.int (nI c)), some (.int (nI s)), some (.int (nI m)), some (.int (nI n)), some (.int (nI v)), some (.int all), some (.int (nI k)), some (.int (nI w))] [.int va] h Q :=
  B162_286 (S.T 35) (S.R 35 55) ⟨(S.T 68), (S.bd 68 g1)⟩ ⟨(S.T 68), (S.bd 68 g2)⟩ (fun c3 => B162_324 (k4 c3)) (fun c3 => B162_318 (k5 c3))
section SHM
variable {h : pm_H} {Q : Option Value → pm_H → Prop} {B : Bk}
theorem c161 {c k v w : Nat} (S : SK h) (bo : bk_ok B) (mb : MB h B) (hc : c < B.2.length) (hk : k + 1 < (clL B c).2.length) (hv : v < 42) (hw : w < 42) (k0 : ∀ g, Sm h g → Q (some (.int (Int32.ofInt (sval (lsB B c) k v w)))) g) : WP 161 0 [some (.ref 35), some (.int (nI c)), some (.int (nI k)), some (.int (nI v)), some (.int (nI w))] [] h Q := by
  obtain ⟨u1, u2, u3, u4⟩ := bk_cl bo hc
  have hl := bo.2.1
  have hl1 := bo.1
  obtain ⟨-, -, m3⟩ := mb.2.2.2 c hc
  obtain ⟨o1, -, -⟩ := m3 k (by omega)
  obtain ⟨o2, -, -⟩ := m3 (k + 1) (by omega)
  obtain ⟨p1, -⟩ := u4 k (by omega)
  obtain ⟨p2, -⟩ := u4 (k + 1) (by omega)
  obtain ⟨-, v1, v2⟩ := mb.2.2.1 _ p1
  obtain ⟨-, w1, w2⟩ := mb.2.2.1 _ p2
  have o2' : zI h 41 (12 * c + k + 1) = nI (ptL B c (k + 1)).1 := o2
  have core : WP 155 0 [some (.ref 35), some (.int (nI (ptL B c k).1)), some (.int (nI (v / 2))), some (.int (bI (tw v))), some (.int (nI (ptL B c (k + 1)).1)), some (.int (nI (w / 2))), some (.int (bI (tw w))), none, none, none, none, none] [] h (fun v1 h1 => WP 161 60 [some (.ref 35), some (.int (nI c)), some (.int (nI k)), some (.int (nI v)), some (.int (nI w))] (v1.toList ++ []) h1 Q) := by
    refine c155 (l1 := lsB B c k) (l2 := lsB B c (k + 1)) S (by omega) (by omega) v1 v2 w1 w2 (bk_st bo p1).1 (bk_st bo p2).1 (by omega) (by omega) (fun g sg e0 e1 => ?_)
    refine V161r (sg.1.SK S) ?_
    rw [e0, e1, sV_n]
    exact k0 g sg
  by_cases c1 : v % 2 = 1 <;> by_cases c2 : w % 2 = 1
  · rw [show tw v = true from decide_eq_true c1, show tw w = true from decide_eq_true c2] at core
    refine V161  S ?_ ?_ ?_ ?_ ?_ ?_ ?_ <;> simp (disch := omega) only [oi_l, oi_n, z_nI, nIA, nIM, nIS, nIlt, nIle, nIeq, nIC, vpI, Nat.add_sub_cancel, Nat.not_le, Nat.not_lt, Nat.not_lt_zero, Nat.le_refl, not_true_eq_false, not_false_eq_true, false_imp_iff, true_imp_iff, forall_const, implies_true, Nat.reduceEqDiff, Nat.reduceLeDiff, Nat.reduceLT, nID, o1, o2', eq_true (show v - v / 2 * 2 = 1 by omega), eq_true (show w - w / 2 * 2 = 1 by omega)] <;> first | omega | exact core
  · rw [show tw v = true from decide_eq_true c1, show tw w = false from decide_eq_false c2] at core
    refine V161  S ?_ ?_ ?_ ?_ ?_ ?_ ?_ <;> simp (disch := omega) only [oi_l, oi_n, z_nI, nIA, nIM, nIS, nIlt, nIle, nIeq, nIC, vpI, Nat.add_sub_cancel, Nat.not_le, Nat.not_lt, Nat.not_lt_zero, Nat.le_refl, not_true_eq_false, not_false_eq_true, false_imp_iff, true_imp_iff, forall_const, implies_true, Nat.reduceEqDiff, Nat.reduceLeDiff, Nat.reduceLT, nID, o1, o2', eq_true (show v - v / 2 * 2 = 1 by omega), show ¬ w - w / 2 * 2 = 1 by omega] <;> first | omega | exact core
  · rw [show tw v = false from decide_eq_false c1, show tw w = true from decide_eq_true c2] at core
    refine V161  S ?_ ?_ ?_ ?_ ?_ ?_ ?_ <;> simp (disch := omega) only [oi_l, oi_n, z_nI, nIA, nIM, nIS, nIlt, nIle, nIeq, nIC, vpI, Nat.add_sub_cancel, Nat.not_le, Nat.not_lt, Nat.not_lt_zero, Nat.le_refl, not_true_eq_false, not_false_eq_true, false_imp_iff, true_imp_iff, forall_const, implies_true, Nat.reduceEqDiff, Nat.reduceLeDiff, Nat.reduceLT, nID, o1, o2', show ¬ v - v / 2 * 2 = 1 by omega, eq_true (show w - w / 2 * 2 = 1 by omega)] <;> first | omega | exact core
  · rw [show tw v = false from decide_eq_false c1, show tw w = false from decide_eq_false c2] at core
    refine V161  S ?_ ?_ ?_ ?_ ?_ ?_ ?_ <;> simp (disch := omega) only [oi_l, oi_n, z_nI, nIA, nIM, nIS, nIlt, nIle, nIeq, nIC, vpI, Nat.add_sub_cancel, Nat.not_le, Nat.not_lt, Nat.not_lt_zero, Nat.le_refl, not_true_eq_false, not_false_eq_true, false_imp_iff, true_imp_iff, forall_const, implies_true, Nat.reduceEqDiff, Nat.reduceLeDiff, Nat.reduceLT, nID, o1, o2', show ¬ v - v / 2 * 2 = 1 by omega, show ¬ w - w / 2 * 2 = 1 by omega] <;> first | omega | exact core
/-- the model's rows of a list, alike, meets and outs differ alone -/
def Sq (L : List Nat) (h g : pm_H) : Prop := Same (35 :: L) h g ∧ ∀ j, j ≠ 63 → j ≠ 64 → j ≠ 49 → zI g 35 j = zI h 35 j
theorem Sq.rf {L : List Nat} {h : pm_H} : Sq L h h := ⟨Same.rf, fun _ _ _ _ => rfl⟩
theorem Sq.I {L : List Nat} {h g : pm_H} (s : Sq L h g) (a i : Nat) (v : Int32) (ha : a ∈ L) (h35 : a ≠ 35) : Sq L h (yI g a i v) := ⟨s.1.I a _ _ (List.mem_cons_of_mem _ ha), fun j h1 h2 h3 => by
  rw [zI_yI, if_neg (Ne.symm h35)]; exact s.2 j h1 h2 h3⟩
theorem Sq.O {L : List Nat} {h g : pm_H} (s : Sq L h g) (v : Int32) : Sq L h (yI g 35 49 v) := ⟨s.1.I 35 _ _ (List.mem_cons_self ..), fun j h1 h2 h3 => by
  rw [zI_yI, if_pos rfl, va_upA, if_neg h3]; exact s.2 j h1 h2 h3⟩
theorem Sq.m {L : List Nat} {h g f : pm_H} (s : Sq L h g) (t : Sm g f) : Sq L h f := ⟨⟨fun a ha => (t.1.1 a (by simp only [List.mem_cons, List.not_mem_nil, or_false]; exact fun e => ha (by rw [e]; exact List.mem_cons_self ..))).trans (s.1.1 a ha), fun a => (t.1.2.1 a).trans (s.1.2.1 a), fun a => (t.1.2.2.1 a).trans (s.1.2.2.1 a), fun a => (t.1.2.2.2.1 a).trans (s.1.2.2.2.1 a), fun a => (t.1.2.2.2.2.1 a).trans (s.1.2.2.2.2.1 a), t.1.2.2.2.2.2.1.trans s.1.2.2.2.2.2.1, t.1.2.2.2.2.2.2.trans s.1.2.2.2.2.2.2⟩, fun j h1 h2 h3 => (t.2 j h1 h2).trans (s.2 j h1 h2 h3)⟩
theorem Sq.K {L : List Nat} {h g : pm_H} (s : Sq L h g) (hL : L.all (fun a => scr true a && (!(Nat.beq a 0) && !(Nat.beq a 35))) = true) : Kp true h g := by
  have hm : ∀ a, a ∈ L → scr true a = true ∧ a ≠ 0 ∧ a ≠ 35 := fun a ha => by
    have := List.all_eq_true.mp hL a ha
    simp only [Bool.and_eq_true, Bool.not_eq_true'] at this
    exact ⟨this.1, fun e => by rw [e] at this; exact absurd this.2.1 (by decide), fun e => by rw [e] at this; exact absurd this.2.2 (by decide)⟩
  have h0 : (0 : Nat) ∉ 35 :: L := fun q => by
    rcases List.mem_cons.mp q with e | e
    · exact absurd e (by decide)
    · exact (hm 0 e).2.1 rfl
  refine ⟨fun a h1 h2 h3 => s.1.1 a (fun q => ?_), fun k _ => by rw [s.1.1 0 h0], fun k hk => s.2 k (fun e => ?_) (fun e => ?_) (fun e => ?_), s.1.2.1, s.1.2.2.1, s.1.2.2.2.1, s.1.2.2.2.2.2.1, s.1.2.2.2.2.2.2⟩
  · rcases List.mem_cons.mp q with e | e
    · exact h3 e
    · rw [(hm a e).1] at h1; cases h1
  · rw [e] at hk; exact absurd hk (by decide)
  · rw [e] at hk; exact absurd hk (by decide)
  · rw [e] at hk; exact absurd hk (by decide)
theorem mxZ1 {a b : Int} (h1 : -2147483648 ≤ a) (h2 : a < b) (h4 : b < 2147483648) : mxI (Int32.ofInt a) (Int32.ofInt b) = Int32.ofInt b := if_pos ((zLT h1 (by omega) (by omega) h4).mpr h2)
theorem mxZ2 {a b : Int} (h1 : -2147483648 ≤ b) (h2 : ¬ a < b) (h4 : a < 2147483648) : mxI (Int32.ofInt a) (Int32.ofInt b) = Int32.ofInt a := if_neg (fun q => h2 ((zLT (by omega) h4 h1 (by omega)).mp q))
theorem m162 {c s n m : Nat} {d5 d6 d7 d8 : Option Value} (S : SK h) (bo : bk_ok B) (mb : MB h B) (hc : c < B.2.length) (hs : s ≤ 20) (hn : n = (clL B c).2.length) (hm : m = 2 * s + 2)
    (k0 : ∀ g, Sq [62, 68] h g → zI g 35 49 = nI n → (∀ k, k < n → zI g 62 k = nI (sP (lsB B c) n m k / 2 + sP (lsB B c) n m k % 2 * 100)) → Q (some (.int (Int32.ofInt (sW (lsB B c) n m (n - 1) (sP (lsB B c) n m 0))))) g) :
    WP 162 57 [some (.ref 35), some (.int (nI c)), some (.int (nI s)), some (.int (nI m)), some (.int (nI n)), some (.int (nI 0)), d6, d7, d8] [] h Q := by
  obtain ⟨u1, u2, u3, u4⟩ := bk_cl bo hc
  rw [← hn] at u2 u3 u4
  have hl := bo.2.1
  have ok : ∀ k, k < n → okS (lsB B c k) := fun k hk => (bk_st bo (u4 k hk).1).1
  have hm0 : 0 < m := by omega
  have MBg : ∀ g, Sq [62, 68] h g → MB g B := fun g sg => mb.keep (sg.K rfl)
  -- what the table holds from a part on
  obtain ⟨T, eT⟩ : ∃ T : pm_H → Nat → Prop, T = fun g r => ∀ k v, r ≤ k → k < n → v < m → zI g 68 (42 * k + v) = Int32.ofInt (sW (lsB B c) n m (n - 1 - k) v) := ⟨_, rfl⟩
  have G : ∀ mm k v (g : pm_H) d8, k + mm = n → (k < n → v = sP (lsB B c) n m k) → v < 42 → Sq [62, 68] h g → (∀ k v, k < n → v < m → zI g 68 (42 * k + v) = Int32.ofInt (sW (lsB B c) n m (n - 1 - k) v)) → (∀ t, t < k → zI g 62 t = nI (sP (lsB B c) n m t / 2 + sP (lsB B c) n m t % 2 * 100)) →
      WP 162 237 [some (.ref 35), some (.int (nI c)), some (.int (nI s)), some (.int (nI m)), some (.int (nI n)), some (.int (nI v)), some (.int (Int32.ofInt (sW (lsB B c) n m (n - 1) (sP (lsB B c) n m 0)))), some (.int (nI k)), d8] [] g Q := by
    intro mm
    induction mm with
    | zero =>
      intro k v g d8 hk ev hv sg e68 f
      obtain rfl : k = n := by omega
      refine V162g  (sg.1.SK S) ?_ ?_ ?_ <;> simp (disch := omega) only [oi_l, oi_n, z_nI, nIA, nIM, nIS, nIlt, nIle, nIeq, nIC, vpI, Nat.add_sub_cancel, Nat.not_le, Nat.not_lt, Nat.not_lt_zero, Nat.le_refl, not_true_eq_false, not_false_eq_true, false_imp_iff, true_imp_iff, forall_const, implies_true, Nat.reduceEqDiff, Nat.reduceLeDiff, Nat.reduceLT] <;> (try omega)
      exact k0 _ (sg.O _) (by simp [zI_yI, va_upA]) (fun t ht => by simp only [zI_yI, Nat.reduceEqDiff, if_false]; exact f t ht)
    | succ mm ih =>
      intro k v g d8 hk ev hv sg e68 f
      obtain rfl := ev (by omega)
      refine V162g  (sg.1.SK S) ?_ ?_ ?_ <;> simp (disch := omega) only [oi_l, oi_n, z_nI, nIA, nIM, nIS, nIlt, nIle, nIeq, nIC, vpI, Nat.add_sub_cancel, Nat.not_le, Nat.not_lt, Nat.not_lt_zero, Nat.le_refl, not_true_eq_false, not_false_eq_true, false_imp_iff, true_imp_iff, forall_const, implies_true, Nat.reduceEqDiff, Nat.reduceLeDiff, Nat.reduceLT, nID, show ¬ n ≤ k by omega] <;> (try omega)
      have sg2 : Sq [62, 68] h (yI g 62 k (nI (sP (lsB B c) n m k / 2 + 100 * (sP (lsB B c) n m k - sP (lsB B c) n m k / 2 * 2)))) := sg.I 62 _ _ (by decide) (by decide)
      have f2 : ∀ g' : pm_H, zI g' 62 = zI (yI g 62 k (nI (sP (lsB B c) n m k / 2 + 100 * (sP (lsB B c) n m k - sP (lsB B c) n m k / 2 * 2)))) 62 → ∀ t, t < k + 1 → zI g' 62 t = nI (sP (lsB B c) n m t / 2 + sP (lsB B c) n m t % 2 * 100) := fun g' eg t ht => by
        rw [eg]
        simp only [zI_yI, va_upA, if_true]
        by_cases ht' : t = k
        · rw [if_pos ht', ht']; exact congrArg nI (by omega)
        · rw [if_neg ht']; exact f t (by omega)
      by_cases hk1 : k + 1 < n
      · obtain ⟨F, eF⟩ : ∃ F, F = sF (lsB B c) n m (n - 2 - k) (sP (lsB B c) n m k) := ⟨_, rfl⟩
        have aP : sP (lsB B c) n m (k + 1) = amx F m := by rw [eF]; rfl
        have aL := amx_lt F m hm0
        have Fb : ∀ w, -5000 ≤ F w ∧ F w ≤ 15000 := fun w => by rw [eF]; exact sF_b ok hm0 u3 (by omega) _ w
        have Pk := sP_lt (lsB B c) n hm0 k
        have H : ∀ q w (g' : pm_H), w + q = amx F m → Sq [62, 68] h g' → zI g' 62 = zI (yI g 62 k (nI (sP (lsB B c) n m k / 2 + 100 * (sP (lsB B c) n m k - sP (lsB B c) n m k / 2 * 2)))) 62 → (∀ k v, k < n → v < m → zI g' 68 (42 * k + v) = Int32.ofInt (sW (lsB B c) n m (n - 1 - k) v)) →
            WP 162 266 [some (.ref 35), some (.int (nI c)), some (.int (nI s)), some (.int (nI m)), some (.int (nI n)), some (.int (nI (sP (lsB B c) n m k))), some (.int (Int32.ofInt (sW (lsB B c) n m (n - 1) (sP (lsB B c) n m 0)))), some (.int (nI k)), some (.int (nI w))] [] g' Q := by
          intro q
          induction q with
          | zero =>
            intro w g' hw sg' e62 e68'
            obtain rfl : w = amx F m := by omega
            refine V162h  (sg'.1.SK S) ?_ ?_ <;> simp (disch := omega) only [oi_l, oi_n, z_nI, nIA, nIM, nIS, nIlt, nIle, nIeq, nIC, vpI, Nat.add_sub_cancel, Nat.not_le, Nat.not_lt, Nat.not_lt_zero, Nat.le_refl, not_true_eq_false, not_false_eq_true, false_imp_iff, true_imp_iff, forall_const, implies_true, Nat.reduceEqDiff, Nat.reduceLeDiff, Nat.reduceLT, show ¬ n ≤ k + 1 by omega] <;> (try omega)
            refine c161 (sg'.1.SK S) bo (MBg _ sg') hc (by omega) (by omega) (by omega) (fun g2 sm => ?_)
            have s2 := sg'.m sm
            have y1 := e68' (k + 1) (amx F m) (by omega) aL
            have y2 := e68' k (sP (lsB B c) n m k) (by omega) Pk
            rw [← sm.1.1 68 (by decide)] at y1 y2
            have ev1 : sval (lsB B c) k (sP (lsB B c) n m k) (amx F m) + sW (lsB B c) n m (n - 1 - (k + 1)) (amx F m) = F (amx F m) := by
              rw [eF]; unfold sF; rw [show n - 2 - (n - 2 - k) = k by omega, show n - 1 - (k + 1) = n - 2 - k by omega]
            have ev2 : sW (lsB B c) n m (n - 1 - k) (sP (lsB B c) n m k) = F (amx F m) := by
              rw [show n - 1 - k = (n - 2 - k) + 1 by omega, sW_S, eF]
            rw [ev2] at y2
            have b1 := Fb (amx F m)
            have I' := ih (k + 1) (amx F m) g2 (some (.int (nI (amx F m)))) (by omega) (fun _ => aP.symm) (by omega) s2 (by rw [sm.1.1 68 (by decide)]; exact e68') (f2 g2 (by rw [sm.1.1 62 (by decide)]; exact e62))
            refine V162i  (s2.1.SK S) ?_ ?_ ?_ ?_ <;> simp (disch := omega) only [oi_l, oi_n, z_nI, nIA, nIM, nIS, nIlt, nIle, nIeq, nIC, vpI, Nat.add_sub_cancel, Nat.not_le, Nat.not_lt, Nat.not_lt_zero, Nat.le_refl, not_true_eq_false, not_false_eq_true, false_imp_iff, true_imp_iff, forall_const, implies_true, Nat.reduceEqDiff, Nat.reduceLeDiff, Nat.reduceLT, y1, y2, zADD, ev1] <;> first | omega | exact I'
          | succ q ihq =>
            intro w g' hw sg' e62 e68'
            refine V162h  (sg'.1.SK S) ?_ ?_ <;> simp (disch := omega) only [oi_l, oi_n, z_nI, nIA, nIM, nIS, nIlt, nIle, nIeq, nIC, vpI, Nat.add_sub_cancel, Nat.not_le, Nat.not_lt, Nat.not_lt_zero, Nat.le_refl, not_true_eq_false, not_false_eq_true, false_imp_iff, true_imp_iff, forall_const, implies_true, Nat.reduceEqDiff, Nat.reduceLeDiff, Nat.reduceLT, show ¬ n ≤ k + 1 by omega] <;> (try omega)
            refine c161 (sg'.1.SK S) bo (MBg _ sg') hc (by omega) (by omega) (by omega) (fun g2 sm => ?_)
            have s2 := sg'.m sm
            have y1 := e68' (k + 1) w (by omega) (by omega)
            have y2 := e68' k (sP (lsB B c) n m k) (by omega) Pk
            rw [← sm.1.1 68 (by decide)] at y1 y2
            have ev1 : sval (lsB B c) k (sP (lsB B c) n m k) w + sW (lsB B c) n m (n - 1 - (k + 1)) w = F w := by
              rw [eF]; unfold sF; rw [show n - 2 - (n - 2 - k) = k by omega, show n - 1 - (k + 1) = n - 2 - k by omega]
            have ev2 : sW (lsB B c) n m (n - 1 - k) (sP (lsB B c) n m k) = F (amx F m) := by
              rw [show n - 1 - k = (n - 2 - k) + 1 by omega, sW_S, eF]
            rw [ev2] at y2
            have b1 := Fb (amx F m)
            have b2 := Fb w
            have ne := amx_fst F m w (by omega)
            have ne' : ¬ F w = F (amx F m) := by omega
            have I' := ihq (w + 1) g2 (by omega) s2 (by rw [sm.1.1 62 (by decide)]; exact e62) (by rw [sm.1.1 68 (by decide)]; exact e68')
            refine V162i  (s2.1.SK S) ?_ ?_ ?_ ?_ <;> simp (disch := omega) only [oi_l, oi_n, z_nI, nIA, nIM, nIS, nIlt, nIle, nIeq, nIC, vpI, Nat.add_sub_cancel, Nat.not_le, Nat.not_lt, Nat.not_lt_zero, Nat.le_refl, not_true_eq_false, not_false_eq_true, false_imp_iff, true_imp_iff, forall_const, implies_true, Nat.reduceEqDiff, Nat.reduceLeDiff, Nat.reduceLT, y1, y2, zADD, ev1, zEQ, ne'] <;> first | omega | exact I'
        exact H _ 0 _ (Nat.zero_add _) sg2 rfl (fun k v h1 h2 => by simp only [zI_yI, Nat.reduceEqDiff, if_false]; exact e68 k v h1 h2)
      · have I' := ih (k + 1) 0 _ (some (.int (nI 0))) (by omega) (fun q => by omega) (by omega) sg2 (fun k v h1 h2 => by simp only [zI_yI, Nat.reduceEqDiff, if_false]; exact e68 k v h1 h2) (f2 _ rfl)
        refine V162h  (sg2.1.SK S) ?_ ?_ <;> simp (disch := omega) only [oi_l, oi_n, z_nI, nIA, nIM, nIS, nIlt, nIle, nIeq, nIC, vpI, Nat.add_sub_cancel, Nat.not_le, Nat.not_lt, Nat.not_lt_zero, Nat.le_refl, not_true_eq_false, not_false_eq_true, false_imp_iff, true_imp_iff, forall_const, implies_true, Nat.reduceEqDiff, Nat.reduceLeDiff, Nat.reduceLT, show n ≤ k + 1 by omega] <;> first | omega | exact I'
  have Fl : ∀ mm w (g : pm_H) d7 d8, w + mm = m → 1 ≤ w → Sq [62, 68] h g → (∀ k v, k < n → v < m → zI g 68 (42 * k + v) = Int32.ofInt (sW (lsB B c) n m (n - 1 - k) v)) →
      WP 162 192 [some (.ref 35), some (.int (nI c)), some (.int (nI s)), some (.int (nI m)), some (.int (nI n)), some (.int (nI (amx (sW (lsB B c) n m (n - 1)) w))), some (.int (nI w)), d7, d8] [] g Q := by
    intro mm
    induction mm with
    | zero =>
      intro w g d7 d8 hw h1 sg e68
      obtain rfl : w = m := by omega
      have aL := amx_lt (sW (lsB B c) n w (n - 1)) w hm0
      have y := e68 0 (amx (sW (lsB B c) n w (n - 1)) w) (by omega) aL
      rw [Nat.mul_zero, Nat.zero_add, Nat.sub_zero] at y
      have G' := G n 0 (amx (sW (lsB B c) n w (n - 1)) w) g d8 (by omega) (fun _ => rfl) (by omega) sg e68 (fun t ht => absurd ht (Nat.not_lt_zero _))
      refine V162f  (sg.1.SK S) ?_ ?_ ?_ ?_ ?_ ?_ <;> simp (disch := omega) only [oi_l, oi_n, z_nI, nIA, nIM, nIS, nIlt, nIle, nIeq, nIC, vpI, Nat.add_sub_cancel, Nat.not_le, Nat.not_lt, Nat.not_lt_zero, Nat.le_refl, not_true_eq_false, not_false_eq_true, false_imp_iff, true_imp_iff, forall_const, implies_true, Nat.reduceEqDiff, Nat.reduceLeDiff, Nat.reduceLT, y] <;> first | omega | exact G'
    | succ mm ih =>
      intro w g d7 d8 hw h1 sg e68
      have a1 := amx_lt (sW (lsB B c) n m (n - 1)) w (by omega)
      have y1 := e68 0 w (by omega) (by omega)
      have y2 := e68 0 (amx (sW (lsB B c) n m (n - 1)) w) (by omega) (by omega)
      rw [Nat.mul_zero, Nat.zero_add, Nat.sub_zero] at y1 y2
      have z1 := sW_b ok hm0 (n - 1) w (by omega)
      have z2 := sW_b ok hm0 (n - 1) (amx (sW (lsB B c) n m (n - 1)) w) (by omega)
      have I' := ih (w + 1) g d7 d8 (by omega) (by omega) sg e68
      have hmk : ¬ m ≤ w := by omega
      by_cases cc : sW (lsB B c) n m (n - 1) (amx (sW (lsB B c) n m (n - 1)) w) < sW (lsB B c) n m (n - 1) w
      · rw [amx_S, if_pos cc] at I'
        have c' : ¬ sW (lsB B c) n m (n - 1) w ≤ sW (lsB B c) n m (n - 1) (amx (sW (lsB B c) n m (n - 1)) w) := by omega
        refine V162f  (sg.1.SK S) ?_ ?_ ?_ ?_ ?_ ?_ <;> simp (disch := omega) only [oi_l, oi_n, z_nI, nIA, nIM, nIS, nIlt, nIle, nIeq, nIC, vpI, Nat.add_sub_cancel, Nat.not_le, Nat.not_lt, Nat.not_lt_zero, Nat.le_refl, not_true_eq_false, not_false_eq_true, false_imp_iff, true_imp_iff, forall_const, implies_true, Nat.reduceEqDiff, Nat.reduceLeDiff, Nat.reduceLT, y1, y2, hmk, zLE, c', Int.not_le, Int.not_lt, eq_true cc] <;> first | omega | exact I'
      · rw [amx_S, if_neg cc] at I'
        have c' : sW (lsB B c) n m (n - 1) w ≤ sW (lsB B c) n m (n - 1) (amx (sW (lsB B c) n m (n - 1)) w) := by omega
        refine V162f  (sg.1.SK S) ?_ ?_ ?_ ?_ ?_ ?_ <;> simp (disch := omega) only [oi_l, oi_n, z_nI, nIA, nIM, nIS, nIlt, nIle, nIeq, nIC, vpI, Nat.add_sub_cancel, Nat.not_le, Nat.not_lt, Nat.not_lt_zero, Nat.le_refl, not_true_eq_false, not_false_eq_true, false_imp_iff, true_imp_iff, forall_const, implies_true, Nat.reduceEqDiff, Nat.reduceLeDiff, Nat.reduceLT, y1, y2, hmk, zLE, eq_true c', Int.not_le, Int.not_lt, cc] <;> first | omega | exact I'
  have Bl : ∀ r (g : pm_H) d6 d7 d8 kk, r ≤ n - 1 → kk = Int32.ofInt ((r : Int) - 1) → Sq [62, 68] h g → (∀ k v, r ≤ k → k < n → v < m → zI g 68 (42 * k + v) = Int32.ofInt (sW (lsB B c) n m (n - 1 - k) v)) →
      WP 162 91 [some (.ref 35), some (.int (nI c)), some (.int (nI s)), some (.int (nI m)), some (.int (nI n)), some (.int kk), d6, d7, d8] [] g Q := by
    intro r
    induction r with
    | zero =>
      intro g d6 d7 d8 kk hr ek sg e68
      have c0 : kk < nI 0 := by rw [ek]; decide
      have F' := Fl (m - 1) 1 g d7 d8 (by omega) (by omega) sg (fun k v => e68 k v (Nat.zero_le _))
      rw [amx_1] at F'
      refine V162b  (sg.1.SK S) ?_ ?_ <;> simp (disch := omega) only [oi_l, oi_n, z_nI, nIA, nIM, nIS, nIlt, nIle, nIeq, nIC, vpI, Nat.add_sub_cancel, Nat.not_le, Nat.not_lt, Nat.not_lt_zero, Nat.le_refl, not_true_eq_false, not_false_eq_true, false_imp_iff, true_imp_iff, forall_const, implies_true, Nat.reduceEqDiff, Nat.reduceLeDiff, Nat.reduceLT, c0] <;> first | omega | exact F'
    | succ r ih =>
      intro g d6 d7 d8 kk hr ek sg e68
      obtain rfl : kk = nI r := by rw [ek]; exact zI_q r
      have C : ∀ mm v (g : pm_H) d7 d8, v + mm = m → Sq [62, 68] h g → (∀ k v, r + 1 ≤ k → k < n → v < m → zI g 68 (42 * k + v) = Int32.ofInt (sW (lsB B c) n m (n - 1 - k) v)) → (∀ t, t < v → zI g 68 (42 * r + t) = Int32.ofInt (sW (lsB B c) n m (n - 1 - r) t)) →
          WP 162 99 [some (.ref 35), some (.int (nI c)), some (.int (nI s)), some (.int (nI m)), some (.int (nI n)), some (.int (nI r)), some (.int (nI v)), d7, d8] [] g Q := by
        intro mm
        induction mm with
        | zero =>
          intro v g d7 d8 hv sg e1 e2
          obtain rfl : v = m := by omega
          have I' := ih g (some (.int (nI v))) d7 d8 (nI r + Int32.ofInt (-1)) (by omega) (nI_p r) sg (fun k v' h1 h2 h3 => by
            by_cases e : k = r
            · rw [e]; exact e2 v' h3
            · exact e1 k v' (by omega) h2 h3)
          refine V162c  (sg.1.SK S) ?_ ?_ <;> simp (disch := omega) only [oi_l, oi_n, z_nI, nIA, nIM, nIS, nIlt, nIle, nIeq, nIC, vpI, Nat.add_sub_cancel, Nat.not_le, Nat.not_lt, Nat.not_lt_zero, Nat.le_refl, not_true_eq_false, not_false_eq_true, false_imp_iff, true_imp_iff, forall_const, implies_true, Nat.reduceEqDiff, Nat.reduceLeDiff, Nat.reduceLT] <;> first | omega | exact I'
        | succ mm ihc =>
          intro v g d7 d8 hv sg e1 e2
          obtain ⟨F, eF⟩ : ∃ F, F = sF (lsB B c) n m (n - 2 - r) v := ⟨_, rfl⟩
          have Fb : ∀ w, -5000 ≤ F w ∧ F w ≤ 15000 := fun w => by rw [eF]; exact sF_b ok hm0 u3 (by omega) _ w
          have D : ∀ mm w (g : pm_H) mo, w + mm = m → (w = 0 ∧ mo = Int32.ofInt (-1000000)) ∨ (0 < w ∧ mo = Int32.ofInt (F (amx F w))) → Sq [62, 68] h g → (∀ k v, r + 1 ≤ k → k < n → v < m → zI g 68 (42 * k + v) = Int32.ofInt (sW (lsB B c) n m (n - 1 - k) v)) → (∀ t, t < v → zI g 68 (42 * r + t) = Int32.ofInt (sW (lsB B c) n m (n - 1 - r) t)) →
              WP 162 113 [some (.ref 35), some (.int (nI c)), some (.int (nI s)), some (.int (nI m)), some (.int (nI n)), some (.int (nI r)), some (.int (nI v)), some (.int mo), some (.int (nI w))] [] g Q := by
            intro mm'
            induction mm' with
            | zero =>
              intro w g mo hw hmo sg e1 e2
              obtain rfl : w = m := by omega
              rcases hmo with ⟨q, -⟩ | ⟨-, rfl⟩
              · omega
              refine V162d  (sg.1.SK S) ?_ ?_ ?_ <;> simp (disch := omega) only [oi_l, oi_n, z_nI, nIA, nIM, nIS, nIlt, nIle, nIeq, nIC, vpI, Nat.add_sub_cancel, Nat.not_le, Nat.not_lt, Nat.not_lt_zero, Nat.le_refl, not_true_eq_false, not_false_eq_true, false_imp_iff, true_imp_iff, forall_const, implies_true, Nat.reduceEqDiff, Nat.reduceLeDiff, Nat.reduceLT] <;> (try omega)
              refine ihc (v + 1) _ _ _ (by omega) (sg.I 68 _ _ (by decide) (by decide)) (fun k v' h1 h2 h3 => ?_) (fun t ht => ?_)
              · simp only [zI_yI, va_upA, if_true]
                rw [if_neg (by omega)]; exact e1 k v' h1 h2 h3
              · simp only [zI_yI, va_upA, if_true]
                by_cases e : t = v
                · rw [if_pos (by omega), e, show n - 1 - r = (n - 2 - r) + 1 by omega, sW_S, eF]
                · rw [if_neg (by omega)]; exact e2 t (by omega)
            | succ mm' ihd =>
              intro w g mo hw hmo sg e1 e2
              refine V162d  (sg.1.SK S) ?_ ?_ ?_ <;> simp (disch := omega) only [oi_l, oi_n, z_nI, nIA, nIM, nIS, nIlt, nIle, nIeq, nIC, vpI, Nat.add_sub_cancel, Nat.not_le, Nat.not_lt, Nat.not_lt_zero, Nat.le_refl, not_true_eq_false, not_false_eq_true, false_imp_iff, true_imp_iff, forall_const, implies_true, Nat.reduceEqDiff, Nat.reduceLeDiff, Nat.reduceLT, show ¬ m ≤ w by omega] <;> (try omega)
              refine c161 (sg.1.SK S) bo (MBg _ sg) hc (by omega) (by omega) (by omega) (fun g2 sm => ?_)
              have s2 := sg.m sm
              have y1 := e1 (r + 1) w (by omega) (by omega) (by omega)
              rw [← sm.1.1 68 (by decide)] at y1
              have ev1 : sval (lsB B c) r v w + sW (lsB B c) n m (n - 1 - (r + 1)) w = F w := by
                rw [eF]; unfold sF; rw [show n - 2 - (n - 2 - r) = r by omega, show n - 1 - (r + 1) = n - 2 - r by omega]
              have b1 := Fb w
              have fin := fun mo' h' => ihd (w + 1) g2 mo' (by omega) h' s2 (by rw [sm.1.1 68 (by decide)]; exact e1) (by rw [sm.1.1 68 (by decide)]; exact e2)
              rcases hmo with ⟨rfl, rfl⟩ | ⟨hw0, rfl⟩
              · have I' := fin (Int32.ofInt (F 0)) (Or.inr ⟨by omega, by rw [amx_1]⟩)
                refine V162e  (s2.1.SK S) ?_ ?_ <;> simp (disch := omega) only [oi_l, oi_n, z_nI, nIA, nIM, nIS, nIlt, nIle, nIeq, nIC, vpI, Nat.add_sub_cancel, Nat.not_le, Nat.not_lt, Nat.not_lt_zero, Nat.le_refl, not_true_eq_false, not_false_eq_true, false_imp_iff, true_imp_iff, forall_const, implies_true, Nat.reduceEqDiff, Nat.reduceLeDiff, Nat.reduceLT, y1, zADD, ev1, mxZ1 (show (-2147483648 : Int) ≤ -1000000 by decide) (show (-1000000 : Int) < F 0 by omega) (show F 0 < 2147483648 by omega)] <;> first | omega | exact I'
              · have b2 := Fb (amx F w)
                by_cases cc : F (amx F w) < F w
                · have I' := fin (Int32.ofInt (F w)) (Or.inr ⟨by omega, by rw [amx_S, if_pos cc]⟩)
                  refine V162e  (s2.1.SK S) ?_ ?_ <;> simp (disch := omega) only [oi_l, oi_n, z_nI, nIA, nIM, nIS, nIlt, nIle, nIeq, nIC, vpI, Nat.add_sub_cancel, Nat.not_le, Nat.not_lt, Nat.not_lt_zero, Nat.le_refl, not_true_eq_false, not_false_eq_true, false_imp_iff, true_imp_iff, forall_const, implies_true, Nat.reduceEqDiff, Nat.reduceLeDiff, Nat.reduceLT, y1, zADD, ev1, mxZ1 (show -2147483648 ≤ F (amx F w) by omega) cc (show F w < 2147483648 by omega)] <;> first | omega | exact I'
                · have I' := fin (Int32.ofInt (F (amx F w))) (Or.inr ⟨by omega, by rw [amx_S, if_neg cc]⟩)
                  refine V162e  (s2.1.SK S) ?_ ?_ <;> simp (disch := omega) only [oi_l, oi_n, z_nI, nIA, nIM, nIS, nIlt, nIle, nIeq, nIC, vpI, Nat.add_sub_cancel, Nat.not_le, Nat.not_lt, Nat.not_lt_zero, Nat.le_refl, not_true_eq_false, not_false_eq_true, false_imp_iff, true_imp_iff, forall_const, implies_true, Nat.reduceEqDiff, Nat.reduceLeDiff, Nat.reduceLT, y1, zADD, ev1, mxZ2 (show -2147483648 ≤ F w by omega) cc (show F (amx F w) < 2147483648 by omega)] <;> first | omega | exact I'
          have D' := D m 0 g _ (by omega) (Or.inl ⟨rfl, rfl⟩) sg e1 e2
          refine V162c  (sg.1.SK S) ?_ ?_ <;> simp (disch := omega) only [oi_l, oi_n, z_nI, nIA, nIM, nIS, nIlt, nIle, nIeq, nIC, vpI, Nat.add_sub_cancel, Nat.not_le, Nat.not_lt, Nat.not_lt_zero, Nat.le_refl, not_true_eq_false, not_false_eq_true, false_imp_iff, true_imp_iff, forall_const, implies_true, Nat.reduceEqDiff, Nat.reduceLeDiff, Nat.reduceLT, show ¬ m ≤ v by omega] <;> first | omega | exact D'
      have C' := C m 0 g d7 d8 (by omega) sg e68 (fun t ht => absurd ht (Nat.not_lt_zero _))
      refine V162b  (sg.1.SK S) ?_ ?_ <;> simp (disch := omega) only [oi_l, oi_n, z_nI, nIA, nIM, nIS, nIlt, nIle, nIeq, nIC, vpI, Nat.add_sub_cancel, Nat.not_le, Nat.not_lt, Nat.not_lt_zero, Nat.le_refl, not_true_eq_false, not_false_eq_true, false_imp_iff, true_imp_iff, forall_const, implies_true, Nat.reduceEqDiff, Nat.reduceLeDiff, Nat.reduceLT] <;> first | omega | exact C'
  have A : ∀ mm v (g : pm_H) d6 d7 d8, v + mm = m → Sq [62, 68] h g → (∀ t, t < v → zI g 68 (42 * (n - 1) + t) = Int32.ofInt 0) → WP 162 57 [some (.ref 35), some (.int (nI c)), some (.int (nI s)), some (.int (nI m)), some (.int (nI n)), some (.int (nI v)), d6, d7, d8] [] g Q := by
    intro mm
    induction mm with
    | zero =>
      intro v g d6 d7 d8 hv sg e
      obtain rfl : v = m := by omega
      have I' := Bl (n - 1) g d6 d7 d8 (nI n - nI 2) (Nat.le_refl _) (by rw [← oi_n, ← oi_n, ← Int32.ofInt_sub]; exact congrArg Int32.ofInt (by omega)) sg (fun k v' h1 h2 h3 => by
        rw [show k = n - 1 by omega, e v' h3, Nat.sub_self]; rfl)
      refine V162a (sg.1.SK S) (fun _ => I') (fun q => ?_) (fun q => ?_)
      · exact absurd (show nI v ≤ nI v by rw [nIle (by omega) (by omega)]; exact Nat.le_refl _) q
      · exact absurd (show nI v ≤ nI v by rw [nIle (by omega) (by omega)]; exact Nat.le_refl _) q
    | succ mm ih =>
      intro v g d6 d7 d8 hv sg e
      refine V162a  (sg.1.SK S) ?_ ?_ ?_ <;> simp (disch := omega) only [oi_l, oi_n, z_nI, nIA, nIM, nIS, nIlt, nIle, nIeq, nIC, vpI, Nat.add_sub_cancel, Nat.not_le, Nat.not_lt, Nat.not_lt_zero, Nat.le_refl, not_true_eq_false, not_false_eq_true, false_imp_iff, true_imp_iff, forall_const, implies_true, Nat.reduceEqDiff, Nat.reduceLeDiff, Nat.reduceLT, show ¬ m ≤ v by omega] <;> (try omega)
      refine ih (v + 1) _ d6 d7 d8 (by omega) (sg.I 68 _ _ (by decide) (by decide)) (fun t ht => ?_)
      simp only [zI_yI, va_upA, if_true]
      by_cases q : t = v
      · rw [if_pos (by omega)]; rfl
      · rw [if_neg (by omega)]; exact e t (by omega)
  exact A m 0 h d6 d7 d8 (by omega) Sq.rf (fun t ht => absurd ht (Nat.not_lt_zero _))
end SHM

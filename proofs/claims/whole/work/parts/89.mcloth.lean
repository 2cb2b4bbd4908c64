/-! readCloth of the model -/
theorem V142A {h : pm_H} {Q : Option Value → pm_H → Prop} {d1 : Option Value} {d2 : Option Value} {d3 : Option Value} {d4 : Option Value} {d5 : Option Value} (S : SK h) (k2 : (¬ (zI h 35 18) = (Int32.ofInt 6)) → WP 128 0 [some (.ref 35), none] [] h (fun v1 h1 => WP 142 23 [some (.ref 35), d1, d2, d3, d4, d5] (v1.toList ++ []) h1 Q)) (k4 : ((zI h 35 18) = (Int32.ofInt 6)) → ((zI h 35 7) ≤ 0) → Q none (yI (yI h 35 7 (Int32.ofInt 3)) 35 8 (zI h 35 10))) (k5 : ((zI h 35 18) = (Int32.ofInt 6)) → (¬ (zI h 35 7) ≤ 0) → Q none h) : WP 142 0 [some (.ref 35), d1, d2, d3, d4, d5] [] h Q :=
  B142_0 (S.T 35) (fun c1 => B142_19 (S.T 35) (k2 c1)) (fun c1 => B142_9 (S.T 35) (B136_0 (S.T 35) (fun c3 => B136_8 (S.T 35) (B142_18 (k4 c1 c3))) (fun c3 => B136_7 (B142_18 (k5 c1 c3)))))
theorem V142B {h : pm_H} {Q : Option Value → pm_H → Prop} {d1 : Option Value} {d2 : Option Value} {d3 : Option Value} {d4 : Option Value} {d5 : Option Value} (S : SK h) (k1 : WP 134 0 [some (.ref 35)] [] h (fun v1 h1 => WP 142 27 [some (.ref 35), d1, d2, d3, d4, d5] (v1.toList ++ []) h1 Q)) : WP 142 23 [some (.ref 35), d1, d2, d3, d4, d5] [] h Q :=
  B142_23 (S.T 35) k1
theorem V142C {h : pm_H} {Q : Option Value → pm_H → Prop} {b : Int32} {d1 : Option Value} {d2 : Option Value} {d3 : Option Value} {d4 : Option Value} {d5 : Option Value} (S : SK h) (k2 : (¬ b = 0) → WP 142 37 [some (.ref 35), some (.int (Int32.ofInt 0)), d2, d3, d4, d5] [] h Q) (k3 : (b = 0) → WP 137 0 [some (.ref 35)] [] h (fun v1 h1 => WP 142 34 [some (.ref 35), d1, d2, d3, d4, d5] (v1.toList ++ []) h1 Q)) : WP 142 27 [some (.ref 35), d1, d2, d3, d4, d5] [.int b] h Q :=
  B142_27 (fun c1 => B142_35 (k2 c1)) (fun c1 => B142_30 (S.T 35) (k3 c1))
theorem V142D {h : pm_H} {Q : Option Value → pm_H → Prop} {d1 : Option Value} {d2 : Option Value} {d3 : Option Value} {d4 : Option Value} {d5 : Option Value} (S : SK h) (k1 : Q none h) : WP 142 34 [some (.ref 35), d1, d2, d3, d4, d5] [] h Q :=
  B142_34 k1
theorem V142E {h : pm_H} {Q : Option Value → pm_H → Prop} {d2 : Option Value} {d3 : Option Value} {d4 : Option Value} {d5 : Option Value} {k : Nat} (S : SK h) (k2 : ((zI h 35 18) ≤ (nI k)) → WP 142 75 [some (.ref 35), some (.int (nI k)), d2, d3, d4, d5] [] h Q) (g3 : (¬ (zI h 35 18) ≤ (nI k)) → vp_in (nI k) 6) (k5 : (¬ (zI h 35 18) ≤ (nI k)) → (¬ (lg_cmp ((zI h 49 ((nI k)).toNatClampNeg)).toInt64 (zJ h 35 14)) = 0) → WP 142 37 [some (.ref 35), some (.int ((nI k) + (Int32.ofInt 1))), d2, d3, d4, d5] [] h Q) (k7 : (¬ (zI h 35 18) ≤ (nI k)) → ((lg_cmp ((zI h 49 ((nI k)).toNatClampNeg)).toInt64 (zJ h 35 14)) = 0) → ((zI h 35 7) ≤ 0) → WP 142 37 [some (.ref 35), some (.int ((nI k) + (Int32.ofInt 1))), d2, d3, d4, d5] [] (yI (yI h 35 7 (Int32.ofInt 5)) 35 8 (zI h 35 10)) Q) (k8 : (¬ (zI h 35 18) ≤ (nI k)) → ((lg_cmp ((zI h 49 ((nI k)).toNatClampNeg)).toInt64 (zJ h 35 14)) = 0) → (¬ (zI h 35 7) ≤ 0) → WP 142 37 [some (.ref 35), some (.int ((nI k) + (Int32.ofInt 1))), d2, d3, d4, d5] [] h Q) : WP 142 37 [some (.ref 35), some (.int (nI k)), d2, d3, d4, d5] [] h Q :=
  B142_37 (S.T 35) (fun c1 => k2 c1) (fun c1 => B142_45 (S.T 35) (S.R 35 31) ⟨(S.T 49), (S.bd 49 (g3 c1))⟩ (fun c4 => B142_69 (k5 c1 c4)) (fun c4 => B142_60 (S.T 35) (B136_0 (S.T 35) (fun c6 => B136_8 (S.T 35) (B142_69 (k7 c1 c4 c6))) (fun c6 => B136_7 (B142_69 (k8 c1 c4 c6))))))
theorem V142F {h : pm_H} {Q : Option Value → pm_H → Prop} {d2 : Option Value} {d3 : Option Value} {d4 : Option Value} {d5 : Option Value} {k : Nat} (S : SK h) (g2 : ((zI h 35 7) ≤ 0) → vp_in (zI h 35 18) 6) (k3 : ((zI h 35 7) ≤ 0) → WP 128 0 [some (.ref 35), none] [] (yI h 49 ((zI h 35 18)).toNatClampNeg ((zJ h 35 14)).toInt32) (fun v1 h1 => WP 142 101 [some (.ref 35), some (.int (nI k)), d2, d3, d4, d5] (v1.toList ++ []) h1 Q)) (k4 : (¬ (zI h 35 7) ≤ 0) → Q none h) : WP 142 75 [some (.ref 35), some (.int (nI k)), d2, d3, d4, d5] [] h Q :=
  B142_75 (S.T 35) (fun c1 => B142_83 (S.T 35) (S.R 35 31) ⟨(S.T 49), (S.bd 49 (g2 c1))⟩ (k3 c1)) (fun c1 => B142_82 (k4 c1))
theorem V142G {h : pm_H} {Q : Option Value → pm_H → Prop} {d2 : Option Value} {d3 : Option Value} {d4 : Option Value} {d5 : Option Value} {k : Nat} (S : SK h) (k1 : WP 138 0 [some (.ref 35), some (.int (Int32.ofInt 58))] [] h (fun v1 h1 => WP 142 107 [some (.ref 35), some (.int (nI k)), d2, d3, d4, d5] (v1.toList ++ []) h1 Q)) : WP 142 101 [some (.ref 35), some (.int (nI k)), d2, d3, d4, d5] [] h Q :=
  B142_101 (S.T 35) k1
theorem V142H {h : pm_H} {Q : Option Value → pm_H → Prop} {d2 : Option Value} {d3 : Option Value} {d4 : Option Value} {d5 : Option Value} {k : Nat} (S : SK h) (k1 : WP 142 111 [some (.ref 35), some (.int (Int32.ofInt 0)), some (.int (Int32.ofInt 1)), d3, d4, d5] [] h Q) : WP 142 107 [some (.ref 35), some (.int (nI k)), d2, d3, d4, d5] [] h Q :=
  B142_107 (k1)
theorem V142h {h : pm_H} {Q : Option Value → pm_H → Prop} {mo : Int32} {d3 : Option Value} {d4 : Option Value} {d5 : Option Value} {z : Nat} (S : SK h) (k2 : (mo = 0) → WP 142 357 [some (.ref 35), some (.int (nI z)), some (.int mo), d3, d4, d5] [] h Q) (k4 : (¬ mo = 0) → (¬ (zI h 35 7) = 0) → WP 142 357 [some (.ref 35), some (.int (nI z)), some (.int mo), d3, d4, d5] [] h Q) (k5 : (¬ mo = 0) → ((zI h 35 7) = 0) → WP 133 0 [some (.ref 35)] [] h (fun v1 h1 => WP 142 126 [some (.ref 35), some (.int (nI z)), some (.int mo), d3, d4, d5] (v1.toList ++ []) h1 Q)) : WP 142 111 [some (.ref 35), some (.int (nI z)), some (.int mo), d3, d4, d5] [] h Q :=
  B142_111 (fun c1 => k2 c1) (fun c1 => B142_115 (S.T 35) (fun c3 => k4 c1 c3) (fun c3 => B142_122 (S.T 35) (k5 c1 c3)))
theorem V142a {h : pm_H} {Q : Option Value → pm_H → Prop} {mo : Int32} {t : Int32} {d3 : Option Value} {d4 : Option Value} {d5 : Option Value} {z : Nat} (S : SK h) (k3 : (¬ t = 0) → (¬ (nI z) = (Int32.ofInt 12)) → WP 142 160 [some (.ref 35), some (.int (nI z)), some (.int mo), some (.int t), d4, d5] [] h Q) (k5 : (¬ t = 0) → ((nI z) = (Int32.ofInt 12)) → ((zI h 35 7) ≤ 0) → WP 142 160 [some (.ref 35), some (.int (nI z)), some (.int mo), some (.int t), d4, d5] [] (yI (yI h 35 7 (Int32.ofInt 3)) 35 8 (zI h 35 10)) Q) (k6 : (¬ t = 0) → ((nI z) = (Int32.ofInt 12)) → (¬ (zI h 35 7) ≤ 0) → WP 142 160 [some (.ref 35), some (.int (nI z)), some (.int mo), some (.int t), d4, d5] [] h Q) (k7 : (t = 0) → WP 134 0 [some (.ref 35)] [] h (fun v1 h1 => WP 142 135 [some (.ref 35), some (.int (nI z)), some (.int mo), some (.int t), d4, d5] (v1.toList ++ []) h1 Q)) : WP 142 126 [some (.ref 35), some (.int (nI z)), some (.int mo), d3, d4, d5] [.int t] h Q :=
  B142_126 (fun c1 => B142_145 (fun c2 => k3 c1 c2) (fun c2 => B142_151 (S.T 35) (B136_0 (S.T 35) (fun c4 => B136_8 (S.T 35) (k5 c1 c2 c4)) (fun c4 => B136_7 (k6 c1 c2 c4))))) (fun c1 => B142_131 (S.T 35) (k7 c1))
theorem V142b {h : pm_H} {Q : Option Value → pm_H → Prop} {mo : Int32} {t : Int32} {b : Int32} {d4 : Option Value} {d5 : Option Value} {z : Nat} (S : SK h) (k3 : (¬ b = 0) → (¬ (nI z) = (Int32.ofInt 12)) → WP 142 160 [some (.ref 35), some (.int (nI z)), some (.int mo), some (.int t), d4, d5] [] h Q) (k5 : (¬ b = 0) → ((nI z) = (Int32.ofInt 12)) → ((zI h 35 7) ≤ 0) → WP 142 160 [some (.ref 35), some (.int (nI z)), some (.int mo), some (.int t), d4, d5] [] (yI (yI h 35 7 (Int32.ofInt 3)) 35 8 (zI h 35 10)) Q) (k6 : (¬ b = 0) → ((nI z) = (Int32.ofInt 12)) → (¬ (zI h 35 7) ≤ 0) → WP 142 160 [some (.ref 35), some (.int (nI z)), some (.int mo), some (.int t), d4, d5] [] h Q) (k7 : (b = 0) → WP 137 0 [some (.ref 35)] [] h (fun v1 h1 => WP 142 142 [some (.ref 35), some (.int (nI z)), some (.int mo), some (.int t), d4, d5] (v1.toList ++ []) h1 Q)) : WP 142 135 [some (.ref 35), some (.int (nI z)), some (.int mo), some (.int t), d4, d5] [.int b] h Q :=
  B142_135 (fun c1 => B142_145 (fun c2 => k3 c1 c2) (fun c2 => B142_151 (S.T 35) (B136_0 (S.T 35) (fun c4 => B136_8 (S.T 35) (k5 c1 c2 c4)) (fun c4 => B136_7 (k6 c1 c2 c4))))) (fun c1 => B142_138 (S.T 35) (k7 c1))
theorem V142c {h : pm_H} {Q : Option Value → pm_H → Prop} {mo : Int32} {t : Int32} {d4 : Option Value} {d5 : Option Value} {z : Nat} (S : SK h) (k1 : WP 142 160 [some (.ref 35), some (.int (nI z)), some (.int mo), some (.int t), d4, d5] [] h Q) : WP 142 142 [some (.ref 35), some (.int (nI z)), some (.int mo), some (.int t), d4, d5] [] h Q :=
  B142_142 (k1)
theorem V142d {h : pm_H} {Q : Option Value → pm_H → Prop} {mo : Int32} {t : Int32} {d4 : Option Value} {d5 : Option Value} {z : Nat} (S : SK h) (k3 : ((zI h 35 7) ≤ 0) → (t = 0) → WP 142 176 [some (.ref 35), some (.int (nI z)), some (.int mo), some (.int t), d4, d5] [] h Q) (k4 : ((zI h 35 7) ≤ 0) → (¬ t = 0) → WP 128 0 [some (.ref 35), none] [] h (fun v1 h1 => WP 142 176 [some (.ref 35), some (.int (nI z)), some (.int mo), some (.int t), d4, d5] (v1.toList ++ []) h1 Q)) (k5 : (¬ (zI h 35 7) ≤ 0) → Q none h) : WP 142 160 [some (.ref 35), some (.int (nI z)), some (.int mo), some (.int t), d4, d5] [] h Q :=
  B142_160 (S.T 35) (fun c1 => B142_168 (fun c2 => k3 c1 c2) (fun c2 => B142_172 (S.T 35) (k4 c1 c2))) (fun c1 => B142_167 (k5 c1))
theorem V142e {h : pm_H} {Q : Option Value → pm_H → Prop} {mo : Int32} {t : Int32} {d4 : Option Value} {d5 : Option Value} {z : Nat} (S : SK h) (k1 : WP 134 0 [some (.ref 35)] [] h (fun v1 h1 => WP 142 180 [some (.ref 35), some (.int (nI z)), some (.int mo), some (.int t), d4, d5] (v1.toList ++ []) h1 Q)) : WP 142 176 [some (.ref 35), some (.int (nI z)), some (.int mo), some (.int t), d4, d5] [] h Q :=
  B142_176 (S.T 35) k1
theorem V142f {h : pm_H} {Q : Option Value → pm_H → Prop} {mo : Int32} {t : Int32} {b : Int32} {d4 : Option Value} {d5 : Option Value} {z : Nat} (S : SK h) (k2 : (¬ b = 0) → WP 142 194 [some (.ref 35), some (.int (nI z)), some (.int mo), some (.int t), some (.int (Int32.ofInt (-1))), some (.int (Int32.ofInt 0))] [] h Q) (k3 : (b = 0) → WP 137 0 [some (.ref 35)] [] h (fun v1 h1 => WP 142 187 [some (.ref 35), some (.int (nI z)), some (.int mo), some (.int t), d4, d5] (v1.toList ++ []) h1 Q)) : WP 142 180 [some (.ref 35), some (.int (nI z)), some (.int mo), some (.int t), d4, d5] [.int b] h Q :=
  B142_180 (fun c1 => B142_188 (k2 c1)) (fun c1 => B142_183 (S.T 35) (k3 c1))
theorem V142g {h : pm_H} {Q : Option Value → pm_H → Prop} {mo : Int32} {t : Int32} {d4 : Option Value} {d5 : Option Value} {z : Nat} (S : SK h) (k1 : Q none h) : WP 142 187 [some (.ref 35), some (.int (nI z)), some (.int mo), some (.int t), d4, d5] [] h Q :=
  B142_187 k1
theorem V142i {h : pm_H} {Q : Option Value → pm_H → Prop} {mo : Int32} {t : Int32} {s : Int32} {z : Nat} {k : Nat} (S : SK h) (k2 : ((zI h 35 17) ≤ (nI k)) → WP 142 229 [some (.ref 35), some (.int (nI z)), some (.int mo), some (.int t), some (.int s), some (.int (nI k))] [] h Q) (g3 : (¬ (zI h 35 17) ≤ (nI k)) → vp_in (nI k) 12) (k5 : (¬ (zI h 35 17) ≤ (nI k)) → (¬ (lg_cmp ((zI h 47 ((nI k)).toNatClampNeg)).toInt64 (zJ h 35 14)) = 0) → WP 142 194 [some (.ref 35), some (.int (nI z)), some (.int mo), some (.int t), some (.int s), some (.int ((nI k) + (Int32.ofInt 1)))] [] h Q) (k6 : (¬ (zI h 35 17) ≤ (nI k)) → ((lg_cmp ((zI h 47 ((nI k)).toNatClampNeg)).toInt64 (zJ h 35 14)) = 0) → WP 142 194 [some (.ref 35), some (.int (nI z)), some (.int mo), some (.int t), some (.int (nI k)), some (.int ((nI k) + (Int32.ofInt 1)))] [] h Q) : WP 142 194 [some (.ref 35), some (.int (nI z)), some (.int mo), some (.int t), some (.int s), some (.int (nI k))] [] h Q :=
  B142_194 (S.T 35) (fun c1 => k2 c1) (fun c1 => B142_203 (S.T 35) (S.R 35 29) ⟨(S.T 47), (S.bd 47 (g3 c1))⟩ (fun c4 => B142_223 (k5 c1 c4)) (fun c4 => B142_219 (B142_223 (k6 c1 c4))))
theorem V142j {h : pm_H} {Q : Option Value → pm_H → Prop} {mo : Int32} {t : Int32} {s : Int32} {z : Nat} {k : Nat} (S : SK h) (k2 : (0 ≤ s) → WP 142 244 [some (.ref 35), some (.int (nI z)), some (.int mo), some (.int t), some (.int s), some (.int (nI k))] [] h Q) (k4 : (¬ 0 ≤ s) → ((zI h 35 7) ≤ 0) → WP 142 244 [some (.ref 35), some (.int (nI z)), some (.int mo), some (.int t), some (.int s), some (.int (nI k))] [] (yI (yI h 35 7 (Int32.ofInt 6)) 35 8 (zI h 35 10)) Q) (k5 : (¬ 0 ≤ s) → (¬ (zI h 35 7) ≤ 0) → WP 142 244 [some (.ref 35), some (.int (nI z)), some (.int mo), some (.int t), some (.int s), some (.int (nI k))] [] h Q) : WP 142 229 [some (.ref 35), some (.int (nI z)), some (.int mo), some (.int t), some (.int s), some (.int (nI k))] [] h Q :=
  B142_229 (fun c1 => k2 c1) (fun c1 => B142_234 (S.T 35) (B136_0 (S.T 35) (fun c3 => B136_8 (S.T 35) (k4 c1 c3)) (fun c3 => B136_7 (k5 c1 c3))))
theorem V142J {h : pm_H} {Q : Option Value → pm_H → Prop} {mo : Int32} {t : Int32} {s : Int32} {z : Nat} {k : Nat} (S : SK h) (k2 : ((zI h 35 7) ≤ 0) → WP 128 0 [some (.ref 35), none] [] h (fun v1 h1 => WP 142 256 [some (.ref 35), some (.int (nI z)), some (.int mo), some (.int t), some (.int s), some (.int (nI k))] (v1.toList ++ []) h1 Q)) (k3 : (¬ (zI h 35 7) ≤ 0) → Q none h) : WP 142 244 [some (.ref 35), some (.int (nI z)), some (.int mo), some (.int t), some (.int s), some (.int (nI k))] [] h Q :=
  B142_244 (S.T 35) (fun c1 => B142_252 (S.T 35) (k2 c1)) (fun c1 => B142_251 (k3 c1))
theorem V142k {h : pm_H} {Q : Option Value → pm_H → Prop} {mo : Int32} {t : Int32} {s : Int32} {k : Int32} {z : Nat} (S : SK h) (k1 : WP 135 0 [some (.ref 35), some (.int (Int32.ofInt 43))] [] h (fun v1 h1 => WP 142 265 [some (.ref 35), some (.int (nI z)), some (.int mo), some (.int t), some (.int s), some (.int (Int32.ofInt 0))] (v1.toList ++ []) h1 Q)) : WP 142 256 [some (.ref 35), some (.int (nI z)), some (.int mo), some (.int t), some (.int s), some (.int k)] [] h Q :=
  B142_256 (S.T 35) k1
theorem V142l {h : pm_H} {Q : Option Value → pm_H → Prop} {mo : Int32} {t : Int32} {s : Int32} {k : Int32} {b : Int32} {z : Nat} (S : SK h) (k2 : (b = 0) → WP 142 281 [some (.ref 35), some (.int (nI z)), some (.int mo), some (.int t), some (.int s), some (.int k)] [] h Q) (k3 : (¬ b = 0) → WP 128 0 [some (.ref 35), none] [] h (fun v1 h1 => WP 142 272 [some (.ref 35), some (.int (nI z)), some (.int mo), some (.int t), some (.int s), some (.int k)] (v1.toList ++ []) h1 Q)) : WP 142 265 [some (.ref 35), some (.int (nI z)), some (.int mo), some (.int t), some (.int s), some (.int k)] [.int b] h Q :=
  B142_265 (fun c1 => k2 c1) (fun c1 => B142_268 (S.T 35) (k3 c1))
theorem V142m {h : pm_H} {Q : Option Value → pm_H → Prop} {mo : Int32} {t : Int32} {s : Int32} {k : Int32} {z : Nat} (S : SK h) (k1 : WP 139 0 [some (.ref 35), some (.int (Int32.ofInt 0)), some (.int (Int32.ofInt 50)), none] [] h (fun v1 h1 => WP 142 279 [some (.ref 35), some (.int (nI z)), some (.int mo), some (.int t), some (.int s), some (.int k)] (v1.toList ++ []) h1 Q)) : WP 142 272 [some (.ref 35), some (.int (nI z)), some (.int mo), some (.int t), some (.int s), some (.int k)] [] h Q :=
  B142_272 (S.T 35) k1
theorem V142n {h : pm_H} {Q : Option Value → pm_H → Prop} {mo : Int32} {t : Int32} {s : Int32} {k : Int32} {v : Int32} {z : Nat} (S : SK h) (k1 : WP 142 281 [some (.ref 35), some (.int (nI z)), some (.int mo), some (.int t), some (.int s), some (.int v)] [] h Q) : WP 142 279 [some (.ref 35), some (.int (nI z)), some (.int mo), some (.int t), some (.int s), some (.int k)] [.int v] h Q :=
  B142_279 (k1)
theorem V142o {h : pm_H} {Q : Option Value → pm_H → Prop} {mo : Int32} {t : Int32} {s : Int32} {v : Int32} {z : Nat} (S : SK h) (g2 : ((zI h 35 7) ≤ 0) → vp_in (((Int32.ofInt 12) * (zI h 35 18)) + (nI z)) 72) (g3 : ((zI h 35 7) ≤ 0) → vp_in (((Int32.ofInt 12) * (zI h 35 18)) + (nI z)) 72) (g4 : ((zI h 35 7) ≤ 0) → t = 0 ∨ t = 1) (g5 : ((zI h 35 7) ≤ 0) → vp_in (((Int32.ofInt 12) * (zI h 35 18)) + (nI z)) 72) (k6 : ((zI h 35 7) ≤ 0) → WP 135 0 [some (.ref 35), some (.int (Int32.ofInt 44))] [] (yI (yI (yI h 51 ((((Int32.ofInt 12) * (zI h 35 18)) + (nI z))).toNatClampNeg s) 52 ((((Int32.ofInt 12) * (zI h 35 18)) + (nI z))).toNatClampNeg v) 44 ((((Int32.ofInt 12) * (zI h 35 18)) + (nI z))).toNatClampNeg t) (fun v1 h1 => WP 142 345 [some (.ref 35), some (.int ((nI z) + (Int32.ofInt 1))), some (.int mo), some (.int t), some (.int s), some (.int v)] (v1.toList ++ []) h1 Q)) (k7 : (¬ (zI h 35 7) ≤ 0) → Q none h) : WP 142 281 [some (.ref 35), some (.int (nI z)), some (.int mo), some (.int t), some (.int s), some (.int v)] [] h Q :=
  B142_281 (S.T 35) (fun c1 => B142_289 (S.T 35) (S.R 35 33) ⟨(S.T 51), (S.bd 51 (g2 c1))⟩ (S.R 35 34) ⟨(S.T 52), (S.bd 52 (g3 c1))⟩ (S.R 35 26) ⟨(S.T 44), (g4 c1), (S.bd 44 (g5 c1))⟩ (k6 c1)) (fun c1 => B142_288 (k7 c1))
theorem V142p {h : pm_H} {Q : Option Value → pm_H → Prop} {mo : Int32} {t : Int32} {s : Int32} {v : Int32} {b : Int32} {z : Nat} (S : SK h) (k2 : (b = 0) → WP 142 111 [some (.ref 35), some (.int (nI z)), some (.int b), some (.int t), some (.int s), some (.int v)] [] h Q) (k3 : (¬ b = 0) → WP 128 0 [some (.ref 35), none] [] h (fun v1 h1 => WP 142 354 [some (.ref 35), some (.int (nI z)), some (.int b), some (.int t), some (.int s), some (.int v)] (v1.toList ++ []) h1 Q)) : WP 142 345 [some (.ref 35), some (.int (nI z)), some (.int mo), some (.int t), some (.int s), some (.int v)] [.int b] h Q :=
  B142_345 (fun c1 => B142_354 (k2 c1)) (fun c1 => B142_350 (S.T 35) (k3 c1))
theorem V142q {h : pm_H} {Q : Option Value → pm_H → Prop} {mo : Int32} {t : Int32} {s : Int32} {v : Int32} {z : Nat} (S : SK h) (k1 : WP 142 111 [some (.ref 35), some (.int (nI z)), some (.int mo), some (.int t), some (.int s), some (.int v)] [] h Q) : WP 142 354 [some (.ref 35), some (.int (nI z)), some (.int mo), some (.int t), some (.int s), some (.int v)] [] h Q :=
  B142_354 (k1)
theorem V142r {h : pm_H} {Q : Option Value → pm_H → Prop} {mo : Int32} {d3 : Option Value} {d4 : Option Value} {d5 : Option Value} {z : Nat} (S : SK h) (g2 : ((zI h 35 7) ≤ 0) → vp_in (zI h 35 18) 6) (k3 : ((zI h 35 7) ≤ 0) → Q none (yI (yI h 50 ((zI h 35 18)).toNatClampNeg (nI z)) 35 18 ((zI h 35 18) + (Int32.ofInt 1)))) (k4 : (¬ (zI h 35 7) ≤ 0) → Q none h) : WP 142 357 [some (.ref 35), some (.int (nI z)), some (.int mo), d3, d4, d5] [] h Q :=
  B142_357 (S.T 35) (fun c1 => B142_365 (S.T 35) (S.R 35 32) ⟨(S.T 50), (S.bd 50 (g2 c1))⟩ (k3 c1)) (fun c1 => B142_364 (k4 c1))
/-- the parts of the model's new cloth -/
def PM (g : pm_H) (c : Nat) (ps : List BkP) : Prop := ∀ k (hk : k < ps.length), zI g 51 (12 * c + k) = nI ps[k].1 ∧ zI g 52 (12 * c + k) = nI ps[k].2.1 ∧ zI g 44 (12 * c + k) = bI ps[k].2.2
def F3 (h g : pm_H) (c : Nat) : Prop := ∀ j, j < 12 * c ∨ 12 * c + 12 ≤ j → zI g 51 j = zI h 51 j ∧ zI g 52 j = zI h 52 j ∧ zI g 44 j = zI h 44 j
set_option maxHeartbeats 4000000 in
theorem m142L {h : pm_H} {Q : Option Value → pm_H → Prop} {ch : Nat → Nat} {n c : Nat} {S : List BkS} (K : SK h) (hn : n ≤ 800) (hc : c < 6) (e4 : zI h 35 4 = nI n) (hch : CH h 36 ch n) (s12 : S.length ≤ 12) (rn : ∀ k, k < S.length → nmS S k < 26 ∧ zI h 47 k = nI (nmS S k + 1)) :
    ∀ f i (ps : List BkP) (g : pm_H) d3 d4 d5, n < i + f → i ≤ n → ps.length ≤ 12 → MF [44, 51, 52] h g → zI g 35 17 = nI S.length → zI g 35 18 = nI c → F3 h g c → MT g ch n i → zI g 35 7 = nI 0 → PM g c ps →
      (∀ k p, prt ch n S f i ps = .inl (k, p) → ∀ g, MF [44, 51, 52] h g → zI g 35 7 = nI k → zI g 35 8 = nI p → 1 ≤ k → Q none g) →
      (∀ i' ps' d3 d4 d5, prt ch n S f i ps = (if isg ch n 59 i' then .inr (tnx ch n i', ps') else .inl (wrg ch n i')) → i' ≤ n → ps'.length ≤ 12 → ∀ g, MF [44, 51, 52] h g → zI g 35 17 = nI S.length → zI g 35 18 = nI c → F3 h g c → MT g ch n i' → zI g 35 7 = nI 0 → PM g c ps' → WP 142 357 [some (.ref 35), some (.int (nI ps'.length)), some (.int (nI 0)), d3, d4, d5] [] g Q) →
      WP 142 111 [some (.ref 35), some (.int (nI ps.length)), some (.int (nI 1)), d3, d4, d5] [] g Q := by
  intro f
  induction f with
  | zero => intro i ps g d3 d4 d5 h1 h2; omega
  | succ f ih =>
    intro i ps g d3 d4 d5 h1 h2 p12 mf e17 e18 f3 mt e7 pm kb k0
    have jb := jt_b (ch := ch) h2
    have nb := tnx_b (ch := ch) jb.2
    have pb := tpl_b (ch := ch) jb.2
    have nb2 := tnx_b (ch := ch) nb.2.1
    have pb2 := tpl_b (ch := ch) nb.2.1
    have nb3 := tnx_b (ch := ch) nb2.2.1
    have nbi := tnx_b (ch := ch) h2
    have pbi := tpl_b (ch := ch) h2
    have S' := mf.SK K
    obtain ⟨t, et⟩ : ∃ t, t = decide (isT ch n i) := ⟨_, rfl⟩
    obtain ⟨j, ej⟩ : ∃ j, j = jt ch n i := ⟨_, rfl⟩
    rw [← ej] at jb nb pb nb2 pb2 nb3
    have nxt : ∀ (g1 : pm_H) j Q', MF [44, 51, 52] h g1 → j ≤ n → MT g1 ch n j → (∀ g2, TmS g1 g2 → MF [44, 51, 52] h g2 → MT g2 ch n (tnx ch n j) → Q' none g2) → WP 128 0 [some (.ref 35), none] [] g1 Q' := fun g1 j Q' m1 hj mt1 k => c128 (m1.SK K) hn (tnx_b (ch := ch) hj).2.1 (by rw [m1.2.1 4 (by omega) (by omega) (by omega)]; exact e4) mt1.2.2.1 (hch.keep (m1.1 36 (by decide) (by decide))) (fun g2 t2 a9 a10 a11 a12 a13 => k g2 t2 (m1.tr (MF.T t2)) ⟨a9, a10, a11, a12, a13⟩)
    have m0 : ∀ g1 g2, MF [44, 51, 52] h g1 → MF [] g1 g2 → MF [44, 51, 52] h g2 := fun g1 g2 a b => a.tr (b.sub (by simp))
    -- a return with a fault
    have R160 : ∀ k p, 1 ≤ k → k ≤ 8 → prt ch n S (f + 1) i ps = .inl (k, p) → ∀ g1 tv d4 d5, MF [44, 51, 52] h g1 → zI g1 35 7 = nI k → zI g1 35 8 = nI p → WP 142 160 [some (.ref 35), some (.int (nI ps.length)), some (.int (nI 1)), some (.int tv), d4, d5] [] g1 Q := fun k p hk hk8 e g1 tv d4 d5 m1 b7 b8 => by
      have k' := kb k p e g1 m1 b7 b8 hk
      refine V142d  (m1.SK K) ?_ ?_ ?_ <;> simp (disch := omega) only [oi_l, oi_n, z_nI, nIA, nIM, nIS, nIlt, nIle, nIeq, nIC, vpI, Nat.add_sub_cancel, Nat.not_le, Nat.not_lt, Nat.not_lt_zero, Nat.le_refl, not_true_eq_false, not_false_eq_true, false_imp_iff, true_imp_iff, forall_const, implies_true, Nat.reduceEqDiff, Nat.reduceLeDiff, Nat.reduceLT, b7, Nat.le_zero, show ¬ k = 0 by omega] <;> first | omega | exact k'
    have full : 12 ≤ ps.length → (isN ch n i ∨ isT ch n i) → ∀ tv d4 d5, WP 142 160 [some (.ref 35), some (.int (nI 12)), some (.int (nI 1)), some (.int tv), d4, d5] [] (yI (yI g 35 7 (nI 3)) 35 8 (nI (tpl ch n i))) Q := fun fl kk tv d4 d5 => by
      have := R160 3 (tpl ch n i) (by decide) (by decide) (by rw [prt, if_neg (fun q => q kk), if_pos fl]) (yI (yI g 35 7 (nI 3)) 35 8 (nI (tpl ch n i))) tv d4 d5 ((mf.F 7 _ (by omega)).F 8 _ (by omega)) (by simp [zI_yI, va_upA]) (by simp [zI_yI, va_upA])
      rw [show ps.length = 12 by omega] at this
      exact this
    -- from the name on
    have K176 : (isN ch n i ∨ isT ch n i) → ¬ 12 ≤ ps.length → ∀ g1 d4 d5, TmS g g1 → MT g1 ch n j → WP 142 176 [some (.ref 35), some (.int (nI ps.length)), some (.int (nI 1)), some (.int (bI t)), d4, d5] [] g1 Q := by
      intro kk nf g1 d4 d5 t1 mt1
      have m1 : MF [44, 51, 52] h g1 := mf.tr (MF.T t1)
      have S1 := m1.SK K
      have q7 : zI g1 35 7 = nI 0 := by rw [t1.2.1 7 (by omega)]; exact e7
      have q17 : zI g1 35 17 = nI S.length := by rw [t1.2.1 17 (by omega)]; exact e17
      have pe : ∀ r, prp ch n S t j (tnx ch n j) = r → prt ch n S (f + 1) i ps = match r with
              | .inl e => .inl e
              | .inr (m, p) => if isg ch n 59 m then .inr (tnx ch n m, ps ++ [p]) else if isg ch n 44 m then prt ch n S f (tnx ch n m) (ps ++ [p]) else .inl (wrg ch n m) := fun r er => by
        rw [et, ej] at er
        rw [prt, if_neg (fun q => q kk), if_neg nf, er]
        rcases r with e | ⟨m, p⟩ <;> rfl
      refine V142e S1 (c134 S1 mt1 hn ?_)
      by_cases nm : isN ch n j
      · rw [if_pos nm]
        have zw := w8 mt1 nm.1 nm.2
        -- the part is told
        have K281 : ∀ g4 s sh m, TmS g g4 → MT g4 ch n m → prp ch n S t j (tnx ch n j) = .inr (m, (s, sh, t)) → WP 142 281 [some (.ref 35), some (.int (nI ps.length)), some (.int (nI 1)), some (.int (bI t)), some (.int (nI s)), some (.int (nI sh))] [] g4 Q := by
          intro g4 s sh m t4 mt4 e
          have m4 : MF [44, 51, 52] h g4 := mf.tr (MF.T t4)
          have S4 := m4.SK K
          have r7 : zI g4 35 7 = nI 0 := by rw [t4.2.1 7 (by omega)]; exact e7
          have r17 : zI g4 35 17 = nI S.length := by rw [t4.2.1 17 (by omega)]; exact e17
          have r18 : zI g4 35 18 = nI c := by rw [t4.2.1 18 (by omega)]; exact e18
          obtain ⟨o1, o2, o3, o4, o5⟩ := prp_ok nb.2.1 e
          have nbm := tnx_b (ch := ch) o2
          have pbm := tpl_b (ch := ch) o2
          have prog := nb.2.2 (by rw [o5.1]; decide)
          have pe' := pe _ e
          simp only at pe'
          have len : (ps ++ [(s, sh, t)]).length = ps.length + 1 := by simp
          have m5 : MF [44, 51, 52] h (yI (yI (yI g4 51 (12 * c + ps.length) (nI s)) 52 (12 * c + ps.length) (nI sh)) 44 (12 * c + ps.length) (bI t)) := ((m4.I 51 _ _ (by decide) (by decide)).I 52 _ _ (by decide) (by decide)).I 44 _ _ (by decide) (by decide)
          have x35 : zI (yI (yI (yI g4 51 (12 * c + ps.length) (nI s)) 52 (12 * c + ps.length) (nI sh)) 44 (12 * c + ps.length) (bI t)) 35 = zI g4 35 := by simp only [zI_yI, Nat.reduceEqDiff, if_false]
          have mt5 : MT (yI (yI (yI g4 51 (12 * c + ps.length) (nI s)) 52 (12 * c + ps.length) (nI sh)) 44 (12 * c + ps.length) (bI t)) ch n m := mt4.keep (fun k _ _ => by rw [x35]) rfl
          have f35 : F3 h (yI (yI (yI g4 51 (12 * c + ps.length) (nI s)) 52 (12 * c + ps.length) (nI sh)) 44 (12 * c + ps.length) (bI t)) c := fun k hk => by
            have := f3 k hk
            rw [← t4.1 51 (by decide), ← t4.1 52 (by decide), ← t4.1 44 (by decide)] at this
            simp only [zI_yI, va_upA, Nat.reduceEqDiff, if_true, if_false]
            rw [if_neg (by omega), if_neg (by omega), if_neg (by omega)]
            exact this
          have pm5 : PM (yI (yI (yI g4 51 (12 * c + ps.length) (nI s)) 52 (12 * c + ps.length) (nI sh)) 44 (12 * c + ps.length) (bI t)) c (ps ++ [(s, sh, t)]) := fun k hk => by
            rw [len] at hk
            simp only [zI_yI, va_upA, Nat.reduceEqDiff, if_true, if_false]
            by_cases ek : k = ps.length
            · subst ek
              rw [if_pos rfl, if_pos rfl, if_pos rfl]
              have ex : (ps ++ [(s, sh, t)])[ps.length] = (s, sh, t) := by simp
              simp only [ex]
              refine ⟨?_, ?_, ?_⟩ <;> first | rfl | trivial
            · rw [if_neg (by omega), if_neg (by omega), if_neg (by omega), t4.1 51 (by decide), t4.1 52 (by decide), t4.1 44 (by decide)]
              have ex : (ps ++ [(s, sh, t)])[k] = ps[k] := by rw [List.getElem_append_left (by omega)]
              simp only [ex]
              exact pm k (by omega)
          obtain ⟨g5, eg5⟩ : ∃ g5, g5 = yI (yI (yI g4 51 (12 * c + ps.length) (nI s)) 52 (12 * c + ps.length) (nI sh)) 44 (12 * c + ps.length) (bI t) := ⟨_, rfl⟩
          have C' : WP 135 0 [some (.ref 35), some (.int (nI 44))] [] (yI (yI (yI g4 51 (12 * c + ps.length) (nI s)) 52 (12 * c + ps.length) (nI sh)) 44 (12 * c + ps.length) (bI t)) (fun v1 h1 => WP 142 345 [some (.ref 35), some (.int (nI (ps.length + 1))), some (.int (nI 1)), some (.int (bI t)), some (.int (nI s)), some (.int (nI sh))] (v1.toList ++ []) h1 Q) := by
            rw [← eg5] at m5 x35 mt5 f35 pm5 ⊢
            have S5 := m5.SK K
            refine c135 (c := 44) (by decide) S5 mt5 ?_
            by_cases cm : isg ch n 44 m
            · rw [if_pos cm]
              rw [if_neg (fun q => by have := q.2; have := cm.2; omega), if_pos cm] at pe'
              have D' : WP 128 0 [some (.ref 35), none] [] g5 (fun v1 h1 => WP 142 354 [some (.ref 35), some (.int (nI (ps.length + 1))), some (.int (nI 1)), some (.int (bI t)), some (.int (nI s)), some (.int (nI sh))] (v1.toList ++ []) h1 Q) := nxt g5 m _ m5 o2 mt5 (fun g6 t6 m6 mt6 => V142q (m6.SK K) (by
                have I' := ih (tnx ch n m) (ps ++ [(s, sh, t)]) g6 (some (.int (bI t))) (some (.int (nI s))) (some (.int (nI sh))) (by omega) nbm.2.1 (by rw [len]; omega) m6 (by rw [t6.2.1 17 (by omega), x35]; exact r17) (by rw [t6.2.1 18 (by omega), x35]; exact r18) (fun k hk => by rw [t6.1 51 (by decide), t6.1 52 (by decide), t6.1 44 (by decide)]; exact f35 k hk) mt6 (by rw [t6.2.1 7 (by omega), x35]; exact r7) (fun k hk => by rw [t6.1 51 (by decide), t6.1 52 (by decide), t6.1 44 (by decide)]; exact pm5 k hk) (by rw [← pe']; exact kb) (by rw [← pe']; exact k0)
                rw [len] at I'
                exact I'))
              refine V142p  S5 ?_ ?_ <;> simp (disch := omega) only [oi_l, oi_n, z_nI, nIA, nIM, nIS, nIlt, nIle, nIeq, nIC, vpI, Nat.add_sub_cancel, Nat.not_le, Nat.not_lt, Nat.not_lt_zero, Nat.le_refl, not_true_eq_false, not_false_eq_true, false_imp_iff, true_imp_iff, forall_const, implies_true, Nat.reduceEqDiff, Nat.reduceLeDiff, Nat.reduceLT] <;> first | omega | exact D'
            · rw [if_neg cm]
              have E' := k0 m (ps ++ [(s, sh, t)]) (some (.int (bI t))) (some (.int (nI s))) (some (.int (nI sh))) (by
                rw [pe']
                by_cases sm : isg ch n 59 m
                · rw [if_pos sm, if_pos sm]
                · rw [if_neg sm, if_neg sm, if_neg cm]) o2 (by rw [len]; omega) g5 m5 (by rw [x35]; exact r17) (by rw [x35]; exact r18) f35 mt5 (by rw [x35]; exact r7) pm5
              rw [len] at E'
              have F' : WP 142 111 [some (.ref 35), some (.int (nI (ps.length + 1))), some (.int (nI 0)), some (.int (bI t)), some (.int (nI s)), some (.int (nI sh))] [] g5 Q := by
                refine V142h  S5 ?_ ?_ ?_ <;> simp (disch := omega) only [oi_l, oi_n, z_nI, nIA, nIM, nIS, nIlt, nIle, nIeq, nIC, vpI, Nat.add_sub_cancel, Nat.not_le, Nat.not_lt, Nat.not_lt_zero, Nat.le_refl, not_true_eq_false, not_false_eq_true, false_imp_iff, true_imp_iff, forall_const, implies_true, Nat.reduceEqDiff, Nat.reduceLeDiff, Nat.reduceLT] <;> first | omega | exact E'
              refine V142p  S5 ?_ ?_ <;> simp (disch := omega) only [oi_l, oi_n, z_nI, nIA, nIM, nIS, nIlt, nIle, nIeq, nIC, vpI, Nat.add_sub_cancel, Nat.not_le, Nat.not_lt, Nat.not_lt_zero, Nat.le_refl, not_true_eq_false, not_false_eq_true, false_imp_iff, true_imp_iff, forall_const, implies_true, Nat.reduceEqDiff, Nat.reduceLeDiff, Nat.reduceLT] <;> first | omega | exact F'
          have bi := bI01 t
          refine V142o  S4 ?_ ?_ ?_ ?_ ?_ ?_ <;> simp (disch := omega) only [oi_l, oi_n, z_nI, nIA, nIM, nIS, nIlt, nIle, nIeq, nIC, vpI, Nat.add_sub_cancel, Nat.not_le, Nat.not_lt, Nat.not_lt_zero, Nat.le_refl, not_true_eq_false, not_false_eq_true, false_imp_iff, true_imp_iff, forall_const, implies_true, Nat.reduceEqDiff, Nat.reduceLeDiff, Nat.reduceLT, r7, r18] <;> first | omega | exact C' | exact bi
        have L : ∀ r k sv, k + r = S.length → sv = (match fnd (nmS S) (tvl ch n j) k with | none => Int32.ofInt (-1) | some s => nI s) → WP 142 194 [some (.ref 35), some (.int (nI ps.length)), some (.int (nI 1)), some (.int (bI t)), some (.int sv), some (.int (nI k))] [] g1 Q := by
          intro r
          induction r with
          | zero =>
            intro k sv hk es
            obtain rfl : k = S.length := by omega
            have G' : WP 142 229 [some (.ref 35), some (.int (nI ps.length)), some (.int (nI 1)), some (.int (bI t)), some (.int sv), some (.int (nI S.length))] [] g1 Q := by
              cases fs : fnd (nmS S) (tvl ch n j) S.length with
              | none =>
                rw [fs] at es
                simp only at es
                subst es
                have ng : ¬ (nI 0) ≤ Int32.ofInt (-1) := by decide
                have k' := kb 6 (tpl ch n j) (by rw [pe (.inl (6, tpl ch n j)) (by unfold prp; rw [if_neg (fun q => q nm), fs])]) (yI (yI g1 35 7 (nI 6)) 35 8 (nI (tpl ch n j))) ((m1.F 7 _ (by omega)).F 8 _ (by omega)) (by simp [zI_yI, va_upA]) (by simp [zI_yI, va_upA]) (by decide)
                have r10 := mt1.2.1
                have mA : MF [44, 51, 52] h (yI (yI g1 35 7 (nI 6)) 35 8 (nI (tpl ch n j))) := (m1.F 7 _ (by omega)).F 8 _ (by omega)
                have b7 : zI (yI (yI g1 35 7 (nI 6)) 35 8 (nI (tpl ch n j))) 35 7 = nI 6 := by simp [zI_yI, va_upA]
                have J' : WP 142 244 [some (.ref 35), some (.int (nI ps.length)), some (.int (nI 1)), some (.int (bI t)), some (.int (Int32.ofInt (-1))), some (.int (nI S.length))] [] (yI (yI g1 35 7 (nI 6)) 35 8 (nI (tpl ch n j))) Q := by
                  refine V142J  (mA.SK K) ?_ ?_ <;> simp (disch := omega) only [oi_l, oi_n, z_nI, nIA, nIM, nIS, nIlt, nIle, nIeq, nIC, vpI, Nat.add_sub_cancel, Nat.not_le, Nat.not_lt, Nat.not_lt_zero, Nat.le_refl, not_true_eq_false, not_false_eq_true, false_imp_iff, true_imp_iff, forall_const, implies_true, Nat.reduceEqDiff, Nat.reduceLeDiff, Nat.reduceLT, b7] <;> first | omega | exact k'
                refine V142j  S1 ?_ ?_ ?_ <;> simp (disch := omega) only [oi_l, oi_n, z_nI, nIA, nIM, nIS, nIlt, nIle, nIeq, nIC, vpI, Nat.add_sub_cancel, Nat.not_le, Nat.not_lt, Nat.not_lt_zero, Nat.le_refl, not_true_eq_false, not_false_eq_true, false_imp_iff, true_imp_iff, forall_const, implies_true, Nat.reduceEqDiff, Nat.reduceLeDiff, Nat.reduceLT, q7, r10, ng] <;> first | omega | exact J'
              | some s =>
                rw [fs] at es
                simp only at es
                subst es
                have sb : s < S.length := (fnd_s _ fs).1
                have pr : prp ch n S t j (tnx ch n j) = if isg ch n 43 (tnx ch n j) then
                  (if ¬ tkd ch n (tnx ch n (tnx ch n j)) = 2 then .inl (wrg ch n (tnx ch n (tnx ch n j)))
                   else if 50 < tvl ch n (tnx ch n (tnx ch n j)) then .inl (4, tpl ch n (tnx ch n (tnx ch n j)))
                   else .inr (tnx ch n (tnx ch n (tnx ch n j)), (s, tvl ch n (tnx ch n (tnx ch n j)), t)))
                  else .inr (tnx ch n j, (s, 0, t)) := by
                  unfold prp; rw [if_neg (fun q => q nm), fs]
                have H' : WP 128 0 [some (.ref 35), none] [] g1 (fun v1 h1 => WP 142 256 [some (.ref 35), some (.int (nI ps.length)), some (.int (nI 1)), some (.int (bI t)), some (.int (nI s)), some (.int (nI S.length))] (v1.toList ++ []) h1 Q) := by
                  refine nxt g1 j _ m1 jb.2 mt1 (fun g2 t2 m2 mt2 => V142k (m2.SK K) (c135 (c := 43) (by decide) (m2.SK K) mt2 ?_))
                  have t2' : TmS g g2 := t1.tr t2
                  by_cases plus : isg ch n 43 (tnx ch n j)
                  · rw [if_pos plus]
                    rw [if_pos plus] at pr
                    have P' : WP 128 0 [some (.ref 35), none] [] g2 (fun v1 h1 => WP 142 272 [some (.ref 35), some (.int (nI ps.length)), some (.int (nI 1)), some (.int (bI t)), some (.int (nI s)), some (.int (nI 0))] (v1.toList ++ []) h1 Q) := by
                      refine nxt g2 _ _ m2 nb.2.1 mt2 (fun g3 t3 m3 mt3 => V142m (m3.SK K) ?_)
                      have t3' : TmS g g3 := t2'.tr t3
                      have u7 : zI g3 35 7 = nI 0 := by rw [t3'.2.1 7 (by omega)]; exact e7
                      have bad : ∀ k p, 1 ≤ k → k ≤ 8 → prp ch n S t j (tnx ch n j) = .inl (k, p) → ∀ g4 v, MF [] g3 g4 → zI g4 35 7 = nI k → zI g4 35 8 = nI p → WP 142 279 [some (.ref 35), some (.int (nI ps.length)), some (.int (nI 1)), some (.int (bI t)), some (.int (nI s)), some (.int (nI 0))] [.int v] g4 Q := fun k p hk hk8 e g4 v m4 b7 b8 => by
                        have m4' := m0 g3 g4 m3 m4
                        have k' := kb k p (by rw [pe _ e]) g4 m4' b7 b8 hk
                        refine V142n (m4'.SK K) ?_
                        refine V142o  (m4'.SK K) ?_ ?_ ?_ ?_ ?_ ?_ <;> simp (disch := omega) only [oi_l, oi_n, z_nI, nIA, nIM, nIS, nIlt, nIle, nIeq, nIC, vpI, Nat.add_sub_cancel, Nat.not_le, Nat.not_lt, Nat.not_lt_zero, Nat.le_refl, not_true_eq_false, not_false_eq_true, false_imp_iff, true_imp_iff, forall_const, implies_true, Nat.reduceEqDiff, Nat.reduceLeDiff, Nat.reduceLT, b7, Nat.le_zero, show ¬ k = 0 by omega] <;> first | omega | exact k'
                      refine c139 (lo := 0) (hi := 50) (m3.SK K) hn nb2.2.1 (by omega) (by omega) (by rw [m3.2.1 4 (by omega) (by omega) (by omega)]; exact e4) mt3 u7 (hch.keep (m3.1 36 (by decide) (by decide))) (fun q g4 v m4 b7 b8' => ?_) (fun q1 q2 g4 v m4 b7 b8' => ?_) (fun q1 q2 q3 g4 t4 mt4 => ?_)
                      · have csb := cs1_b (ch := ch) (n := n) (i := tnx ch n (tnx ch n j))
                        exact bad _ _ csb.1 (by omega) (by rw [pr, if_pos q]) g4 v m4 b7 b8'
                      · exact bad _ _ (by decide) (by decide) (by rw [pr, if_neg (fun q => q q1), if_pos (by omega)]) g4 v m4 b7 b8'
                      · refine V142n ((m3.tr (MF.T t4)).SK K) ?_
                        exact K281 g4 s _ _ (t3'.tr t4) mt4 (by rw [pr, if_neg (fun q => q q1), if_neg (by omega)])
                    refine V142l  (m2.SK K) ?_ ?_ <;> simp (disch := omega) only [oi_l, oi_n, z_nI, nIA, nIM, nIS, nIlt, nIle, nIeq, nIC, vpI, Nat.add_sub_cancel, Nat.not_le, Nat.not_lt, Nat.not_lt_zero, Nat.le_refl, not_true_eq_false, not_false_eq_true, false_imp_iff, true_imp_iff, forall_const, implies_true, Nat.reduceEqDiff, Nat.reduceLeDiff, Nat.reduceLT] <;> first | omega | exact P'
                  · rw [if_neg plus]
                    rw [if_neg plus] at pr
                    have P' := K281 g2 s 0 _ t2' mt2 pr
                    refine V142l  (m2.SK K) ?_ ?_ <;> simp (disch := omega) only [oi_l, oi_n, z_nI, nIA, nIM, nIS, nIlt, nIle, nIeq, nIC, vpI, Nat.add_sub_cancel, Nat.not_le, Nat.not_lt, Nat.not_lt_zero, Nat.le_refl, not_true_eq_false, not_false_eq_true, false_imp_iff, true_imp_iff, forall_const, implies_true, Nat.reduceEqDiff, Nat.reduceLeDiff, Nat.reduceLT] <;> first | omega | exact P'
                have J' : WP 142 244 [some (.ref 35), some (.int (nI ps.length)), some (.int (nI 1)), some (.int (bI t)), some (.int (nI s)), some (.int (nI S.length))] [] g1 Q := by
                  refine V142J  S1 ?_ ?_ <;> simp (disch := omega) only [oi_l, oi_n, z_nI, nIA, nIM, nIS, nIlt, nIle, nIeq, nIC, vpI, Nat.add_sub_cancel, Nat.not_le, Nat.not_lt, Nat.not_lt_zero, Nat.le_refl, not_true_eq_false, not_false_eq_true, false_imp_iff, true_imp_iff, forall_const, implies_true, Nat.reduceEqDiff, Nat.reduceLeDiff, Nat.reduceLT, q7] <;> first | omega | exact H'
                refine V142j  S1 ?_ ?_ ?_ <;> simp (disch := omega) only [oi_l, oi_n, z_nI, nIA, nIM, nIS, nIlt, nIle, nIeq, nIC, vpI, Nat.add_sub_cancel, Nat.not_le, Nat.not_lt, Nat.not_lt_zero, Nat.le_refl, not_true_eq_false, not_false_eq_true, false_imp_iff, true_imp_iff, forall_const, implies_true, Nat.reduceEqDiff, Nat.reduceLeDiff, Nat.reduceLT, q7, Nat.zero_le] <;> first | omega | exact J'
            refine V142i  S1 ?_ ?_ ?_ ?_ <;> simp (disch := omega) only [oi_l, oi_n, z_nI, nIA, nIM, nIS, nIlt, nIle, nIeq, nIC, vpI, Nat.add_sub_cancel, Nat.not_le, Nat.not_lt, Nat.not_lt_zero, Nat.le_refl, not_true_eq_false, not_false_eq_true, false_imp_iff, true_imp_iff, forall_const, implies_true, Nat.reduceEqDiff, Nat.reduceLeDiff, Nat.reduceLT, q17] <;> first | omega | exact G'
          | succ r ihr =>
            intro k sv hk es
            obtain ⟨n1, n2⟩ := rn k (by omega)
            rw [← m1.1 47 (by decide) (by decide)] at n2
            by_cases ek : nmS S k = tvl ch n j
            · have I' := ihr (k + 1) (nI k) (by omega) (by rw [fnd, if_pos ek])
              have lg : lg_cmp (nI (nmS S k + 1)).toInt64 (zJ g1 35 14) = 0 := by rw [zw]; exact (lgw (by omega) (by omega)).mpr ek
              refine V142i  S1 ?_ ?_ ?_ ?_ <;> simp (disch := omega) only [oi_l, oi_n, z_nI, nIA, nIM, nIS, nIlt, nIle, nIeq, nIC, vpI, Nat.add_sub_cancel, Nat.not_le, Nat.not_lt, Nat.not_lt_zero, Nat.le_refl, not_true_eq_false, not_false_eq_true, false_imp_iff, true_imp_iff, forall_const, implies_true, Nat.reduceEqDiff, Nat.reduceLeDiff, Nat.reduceLT, q17, n2, lg, show ¬ S.length ≤ k by omega] <;> first | omega | exact I'
            · have I' := ihr (k + 1) sv (by omega) (by rw [fnd, if_neg ek]; exact es)
              have lg : ¬ lg_cmp (nI (nmS S k + 1)).toInt64 (zJ g1 35 14) = nI 0 := by rw [zw]; exact fun q => ek ((lgw (by omega) (by omega)).mp q)
              refine V142i  S1 ?_ ?_ ?_ ?_ <;> simp (disch := omega) only [oi_l, oi_n, z_nI, nIA, nIM, nIS, nIlt, nIle, nIeq, nIC, vpI, Nat.add_sub_cancel, Nat.not_le, Nat.not_lt, Nat.not_lt_zero, Nat.le_refl, not_true_eq_false, not_false_eq_true, false_imp_iff, true_imp_iff, forall_const, implies_true, Nat.reduceEqDiff, Nat.reduceLeDiff, Nat.reduceLT, q17, n2, lg, show ¬ S.length ≤ k by omega] <;> first | omega | exact I'
        have L' := L _ 0 (Int32.ofInt (-1)) (Nat.zero_add _) rfl
        refine V142f  S1 ?_ ?_ <;> simp (disch := omega) only [oi_l, oi_n, z_nI, nIA, nIM, nIS, nIlt, nIle, nIeq, nIC, vpI, Nat.add_sub_cancel, Nat.not_le, Nat.not_lt, Nat.not_lt_zero, Nat.le_refl, not_true_eq_false, not_false_eq_true, false_imp_iff, true_imp_iff, forall_const, implies_true, Nat.reduceEqDiff, Nat.reduceLeDiff, Nat.reduceLT] <;> first | omega | exact L'
      · rw [if_neg nm]
        have C' : WP 137 0 [some (.ref 35)] [] g1 (fun v1 h1 => WP 142 187 [some (.ref 35), some (.int (nI ps.length)), some (.int (nI 1)), some (.int (bI t)), d4, d5] (v1.toList ++ []) h1 Q) := c137 S1 mt1 q7 (fun g2 m2 _ _ b7 b8' => V142g (m2.SK S1) (kb _ _ (by rw [pe (.inl (wrg ch n j)) (by unfold prp; rw [if_pos nm])]) g2 (m0 g1 g2 m1 m2) b7 b8' cs1_b.1))
        refine V142f  S1 ?_ ?_ <;> simp (disch := omega) only [oi_l, oi_n, z_nI, nIA, nIM, nIS, nIlt, nIle, nIeq, nIC, vpI, Nat.add_sub_cancel, Nat.not_le, Nat.not_lt, Nat.not_lt_zero, Nat.le_refl, not_true_eq_false, not_false_eq_true, false_imp_iff, true_imp_iff, forall_const, implies_true, Nat.reduceEqDiff, Nat.reduceLeDiff, Nat.reduceLT] <;> first | omega | exact C'
    refine V142h  S' ?_ ?_ ?_ <;> simp (disch := omega) only [oi_l, oi_n, z_nI, nIA, nIM, nIS, nIlt, nIle, nIeq, nIC, vpI, Nat.add_sub_cancel, Nat.not_le, Nat.not_lt, Nat.not_lt_zero, Nat.le_refl, not_true_eq_false, not_false_eq_true, false_imp_iff, true_imp_iff, forall_const, implies_true, Nat.reduceEqDiff, Nat.reduceLeDiff, Nat.reduceLT, e7] <;> (try omega)
    refine c133 S' mt ?_
    have m10 := mt.2.1
    by_cases tn : isT ch n i
    · rw [if_pos tn]
      have t1 : t = true := by rw [et]; exact decide_eq_true tn
      have ej' : j = tnx ch n i := by rw [ej]; unfold jt; rw [if_pos tn]
      by_cases fl : 12 ≤ ps.length
      · have F' := full fl (Or.inr tn) (nI 1) d4 d5
        refine V142a  S' ?_ ?_ ?_ ?_ <;> simp (disch := omega) only [oi_l, oi_n, z_nI, nIA, nIM, nIS, nIlt, nIle, nIeq, nIC, vpI, Nat.add_sub_cancel, Nat.not_le, Nat.not_lt, Nat.not_lt_zero, Nat.le_refl, not_true_eq_false, not_false_eq_true, false_imp_iff, true_imp_iff, forall_const, implies_true, Nat.reduceEqDiff, Nat.reduceLeDiff, Nat.reduceLT, e7, m10, show ps.length = 12 by omega] <;> first | omega | exact F'
      · have G' : WP 142 160 [some (.ref 35), some (.int (nI ps.length)), some (.int (nI 1)), some (.int (nI 1)), d4, d5] [] g Q := by
          have H' : WP 128 0 [some (.ref 35), none] [] g (fun v1 h1 => WP 142 176 [some (.ref 35), some (.int (nI ps.length)), some (.int (nI 1)), some (.int (nI 1)), d4, d5] (v1.toList ++ []) h1 Q) := nxt g i _ mf h2 mt (fun g1 t1' m1 mt1 => by
            have := K176 (Or.inr tn) fl g1 d4 d5 t1' (by rw [ej']; exact mt1)
            rw [t1] at this
            exact this)
          refine V142d  S' ?_ ?_ ?_ <;> simp (disch := omega) only [oi_l, oi_n, z_nI, nIA, nIM, nIS, nIlt, nIle, nIeq, nIC, vpI, Nat.add_sub_cancel, Nat.not_le, Nat.not_lt, Nat.not_lt_zero, Nat.le_refl, not_true_eq_false, not_false_eq_true, false_imp_iff, true_imp_iff, forall_const, implies_true, Nat.reduceEqDiff, Nat.reduceLeDiff, Nat.reduceLT, e7] <;> first | omega | exact H'
        refine V142a  S' ?_ ?_ ?_ ?_ <;> simp (disch := omega) only [oi_l, oi_n, z_nI, nIA, nIM, nIS, nIlt, nIle, nIeq, nIC, vpI, Nat.add_sub_cancel, Nat.not_le, Nat.not_lt, Nat.not_lt_zero, Nat.le_refl, not_true_eq_false, not_false_eq_true, false_imp_iff, true_imp_iff, forall_const, implies_true, Nat.reduceEqDiff, Nat.reduceLeDiff, Nat.reduceLT, show ¬ ps.length = 12 by omega] <;> first | omega | exact G'
    · rw [if_neg tn]
      have t1 : t = false := by rw [et]; exact decide_eq_false tn
      have ej' : j = i := by rw [ej]; unfold jt; rw [if_neg tn]
      have N' : WP 134 0 [some (.ref 35)] [] g (fun v1 h1 => WP 142 135 [some (.ref 35), some (.int (nI ps.length)), some (.int (nI 1)), some (.int (nI 0)), d4, d5] (v1.toList ++ []) h1 Q) := by
        refine c134 S' mt hn ?_
        by_cases nm : isN ch n i
        · rw [if_pos nm]
          by_cases fl : 12 ≤ ps.length
          · have F' := full fl (Or.inl nm) (nI 0) d4 d5
            refine V142b  S' ?_ ?_ ?_ ?_ <;> simp (disch := omega) only [oi_l, oi_n, z_nI, nIA, nIM, nIS, nIlt, nIle, nIeq, nIC, vpI, Nat.add_sub_cancel, Nat.not_le, Nat.not_lt, Nat.not_lt_zero, Nat.le_refl, not_true_eq_false, not_false_eq_true, false_imp_iff, true_imp_iff, forall_const, implies_true, Nat.reduceEqDiff, Nat.reduceLeDiff, Nat.reduceLT, e7, m10, show ps.length = 12 by omega] <;> first | omega | exact F'
          · have G' : WP 142 160 [some (.ref 35), some (.int (nI ps.length)), some (.int (nI 1)), some (.int (nI 0)), d4, d5] [] g Q := by
              have H' := K176 (Or.inl nm) fl g d4 d5 TmS.rf (by rw [ej']; exact mt)
              rw [t1] at H'
              refine V142d  S' ?_ ?_ ?_ <;> simp (disch := omega) only [oi_l, oi_n, z_nI, nIA, nIM, nIS, nIlt, nIle, nIeq, nIC, vpI, Nat.add_sub_cancel, Nat.not_le, Nat.not_lt, Nat.not_lt_zero, Nat.le_refl, not_true_eq_false, not_false_eq_true, false_imp_iff, true_imp_iff, forall_const, implies_true, Nat.reduceEqDiff, Nat.reduceLeDiff, Nat.reduceLT, e7] <;> first | omega | exact H'
            refine V142b  S' ?_ ?_ ?_ ?_ <;> simp (disch := omega) only [oi_l, oi_n, z_nI, nIA, nIM, nIS, nIlt, nIle, nIeq, nIC, vpI, Nat.add_sub_cancel, Nat.not_le, Nat.not_lt, Nat.not_lt_zero, Nat.le_refl, not_true_eq_false, not_false_eq_true, false_imp_iff, true_imp_iff, forall_const, implies_true, Nat.reduceEqDiff, Nat.reduceLeDiff, Nat.reduceLT, show ¬ ps.length = 12 by omega] <;> first | omega | exact G'
        · rw [if_neg nm]
          have C' : WP 137 0 [some (.ref 35)] [] g (fun v1 h1 => WP 142 142 [some (.ref 35), some (.int (nI ps.length)), some (.int (nI 1)), some (.int (nI 0)), d4, d5] (v1.toList ++ []) h1 Q) := c137 S' mt e7 (fun g2 m2 _ _ b7 b8' => V142c (m2.SK S') (R160 _ _ cs1_b.1 (by have := cs1_b (ch := ch) (n := n) (i := i); omega) (by rw [prt, if_pos (fun q => by rcases q with q | q; exact nm q; exact tn q)]) g2 (nI 0) d4 d5 (m0 g g2 mf m2) b7 b8'))
          refine V142b  S' ?_ ?_ ?_ ?_ <;> simp (disch := omega) only [oi_l, oi_n, z_nI, nIA, nIM, nIS, nIlt, nIle, nIeq, nIC, vpI, Nat.add_sub_cancel, Nat.not_le, Nat.not_lt, Nat.not_lt_zero, Nat.le_refl, not_true_eq_false, not_false_eq_true, false_imp_iff, true_imp_iff, forall_const, implies_true, Nat.reduceEqDiff, Nat.reduceLeDiff, Nat.reduceLT] <;> first | omega | exact C'
      refine V142a  S' ?_ ?_ ?_ ?_ <;> simp (disch := omega) only [oi_l, oi_n, z_nI, nIA, nIM, nIS, nIlt, nIle, nIeq, nIC, vpI, Nat.add_sub_cancel, Nat.not_le, Nat.not_lt, Nat.not_lt_zero, Nat.le_refl, not_true_eq_false, not_false_eq_true, false_imp_iff, true_imp_iff, forall_const, implies_true, Nat.reduceEqDiff, Nat.reduceLeDiff, Nat.reduceLT] <;> first | omega | exact N'

/-! TOKENS of the model -/
theorem V128 {h : pm_H} {Q : Option Value → pm_H → Prop} {d1 : Option Value} (S : SK h) (k1 : WP 128 8 [some (.ref 35), d1] [] (yI h 35 10 (zI h 35 11)) Q) : WP 128 0 [some (.ref 35), d1] [] h Q :=
  B128_0 (S.T 35) (k1)
theorem V128S {h : pm_H} {Q : Option Value → pm_H → Prop} {d1 : Option Value} (S : SK h) (k2 : ((zI h 35 4) ≤ (zI h 35 10)) → WP 128 58 [some (.ref 35), d1] [] h Q) (k7 : (¬ (zI h 35 4) ≤ (zI h 35 10)) → ((zI h 35 4) ≤ (zI h 35 10)) → ((zI h 35 4) ≤ (zI h 35 10)) → WP 128 58 [some (.ref 35), d1] [] h Q) (g8 : (¬ (zI h 35 4) ≤ (zI h 35 10)) → ((zI h 35 4) ≤ (zI h 35 10)) → (¬ (zI h 35 4) ≤ (zI h 35 10)) → vp_in (zI h 35 10) 800) (k10 : (¬ (zI h 35 4) ≤ (zI h 35 10)) → ((zI h 35 4) ≤ (zI h 35 10)) → (¬ (zI h 35 4) ≤ (zI h 35 10)) → (¬ ((zI h 36 ((zI h 35 10)).toNatClampNeg) &&& (Int32.ofInt 255)) = (Int32.ofInt 32)) → WP 128 58 [some (.ref 35), d1] [] h Q) (k11 : (¬ (zI h 35 4) ≤ (zI h 35 10)) → ((zI h 35 4) ≤ (zI h 35 10)) → (¬ (zI h 35 4) ≤ (zI h 35 10)) → (((zI h 36 ((zI h 35 10)).toNatClampNeg) &&& (Int32.ofInt 255)) = (Int32.ofInt 32)) → WP 128 8 [some (.ref 35), d1] [] (yI h 35 10 ((zI h 35 10) + (Int32.ofInt 1))) Q) (g12 : (¬ (zI h 35 4) ≤ (zI h 35 10)) → (¬ (zI h 35 4) ≤ (zI h 35 10)) → vp_in (zI h 35 10) 800) (k14 : (¬ (zI h 35 4) ≤ (zI h 35 10)) → (¬ (zI h 35 4) ≤ (zI h 35 10)) → (((zI h 36 ((zI h 35 10)).toNatClampNeg) &&& (Int32.ofInt 255)) = (Int32.ofInt 10)) → WP 128 8 [some (.ref 35), d1] [] (yI h 35 10 ((zI h 35 10) + (Int32.ofInt 1))) Q) (k17 : (¬ (zI h 35 4) ≤ (zI h 35 10)) → (¬ (zI h 35 4) ≤ (zI h 35 10)) → (¬ ((zI h 36 ((zI h 35 10)).toNatClampNeg) &&& (Int32.ofInt 255)) = (Int32.ofInt 10)) → ((zI h 35 4) ≤ (zI h 35 10)) → WP 128 58 [some (.ref 35), d1] [] h Q) (g18 : (¬ (zI h 35 4) ≤ (zI h 35 10)) → (¬ (zI h 35 4) ≤ (zI h 35 10)) → (¬ ((zI h 36 ((zI h 35 10)).toNatClampNeg) &&& (Int32.ofInt 255)) = (Int32.ofInt 10)) → (¬ (zI h 35 4) ≤ (zI h 35 10)) → vp_in (zI h 35 10) 800) (k20 : (¬ (zI h 35 4) ≤ (zI h 35 10)) → (¬ (zI h 35 4) ≤ (zI h 35 10)) → (¬ ((zI h 36 ((zI h 35 10)).toNatClampNeg) &&& (Int32.ofInt 255)) = (Int32.ofInt 10)) → (¬ (zI h 35 4) ≤ (zI h 35 10)) → (¬ ((zI h 36 ((zI h 35 10)).toNatClampNeg) &&& (Int32.ofInt 255)) = (Int32.ofInt 32)) → WP 128 58 [some (.ref 35), d1] [] h Q) (k21 : (¬ (zI h 35 4) ≤ (zI h 35 10)) → (¬ (zI h 35 4) ≤ (zI h 35 10)) → (¬ ((zI h 36 ((zI h 35 10)).toNatClampNeg) &&& (Int32.ofInt 255)) = (Int32.ofInt 10)) → (¬ (zI h 35 4) ≤ (zI h 35 10)) → (((zI h 36 ((zI h 35 10)).toNatClampNeg) &&& (Int32.ofInt 255)) = (Int32.ofInt 32)) → WP 128 8 [some (.ref 35), d1] [] (yI h 35 10 ((zI h 35 10) + (Int32.ofInt 1))) Q) : WP 128 8 [some (.ref 35), d1] [] h Q :=
  B128_8 (S.T 35) (fun c1 => k2 c1) (fun c1 => B128_19 (S.T 35) (B125_0 (S.T 35) (fun c3 => B125_21 (B125_22 (B128_27 (fun q => absurd q (by decide)) (fun _ => B128_32 (S.T 35) (B125_0 (S.T 35) (fun c5 => B125_21 (B125_22 (B128_40 (fun _ => k7 c1 c3 c5) (fun q => absurd q (by decide))))) (fun c5 => B125_8 (S.T 35) (S.R 35 2) ⟨(S.T 36), (S.bd 36 (g8 c1 c3 c5))⟩ (B125_22 (B128_40 (fun c9 => k10 c1 c3 c5 c9) (fun c9 => B128_45 (S.T 35) (k11 c1 c3 c5 c9)))))))))) (fun c3 => B125_8 (S.T 35) (S.R 35 2) ⟨(S.T 36), (S.bd 36 (g12 c1 c3))⟩ (B125_22 (B128_27 (fun c13 => B128_45 (S.T 35) (k14 c1 c3 c13)) (fun c13 => B128_32 (S.T 35) (B125_0 (S.T 35) (fun c15 => B125_21 (B125_22 (B128_40 (fun _ => k17 c1 c3 c13 c15) (fun q => absurd q (by decide))))) (fun c15 => B125_8 (S.T 35) (S.R 35 2) ⟨(S.T 36), (S.bd 36 (g18 c1 c3 c13 c15))⟩ (B125_22 (B128_40 (fun c19 => k20 c1 c3 c13 c15 c19) (fun c19 => B128_45 (S.T 35) (k21 c1 c3 c13 c15 c19))))))))))))
theorem V128b {h : pm_H} {Q : Option Value → pm_H → Prop} {d1 : Option Value} (S : SK h) (k7 : ((zI h 35 10) < (zI h 35 4)) → ((zI h 35 4) ≤ (zI h 35 10)) → WP 128 298 [some (.ref 35), some (.int (Int32.ofInt 0))] [] (yI h 35 11 (zI h 35 10)) Q) (g8 : ((zI h 35 10) < (zI h 35 4)) → (¬ (zI h 35 4) ≤ (zI h 35 10)) → vp_in (zI h 35 10) 800) (k13 : ((zI h 35 10) < (zI h 35 4)) → (¬ (zI h 35 4) ≤ (zI h 35 10)) → (((zI h 36 ((zI h 35 10)).toNatClampNeg) &&& (Int32.ofInt 255)) < (Int32.ofInt 97)) → (((zI h 36 ((zI h 35 10)).toNatClampNeg) &&& (Int32.ofInt 255)) < (Int32.ofInt 48)) → WP 128 298 [some (.ref 35), some (.int ((zI h 36 ((zI h 35 10)).toNatClampNeg) &&& (Int32.ofInt 255)))] [] (yI h 35 11 (zI h 35 10)) Q) (k16 : ((zI h 35 10) < (zI h 35 4)) → (¬ (zI h 35 4) ≤ (zI h 35 10)) → (((zI h 36 ((zI h 35 10)).toNatClampNeg) &&& (Int32.ofInt 255)) < (Int32.ofInt 97)) → (¬ ((zI h 36 ((zI h 35 10)).toNatClampNeg) &&& (Int32.ofInt 255)) < (Int32.ofInt 48)) → ((Int32.ofInt 57) < ((zI h 36 ((zI h 35 10)).toNatClampNeg) &&& (Int32.ofInt 255))) → WP 128 298 [some (.ref 35), some (.int ((zI h 36 ((zI h 35 10)).toNatClampNeg) &&& (Int32.ofInt 255)))] [] (yI h 35 11 (zI h 35 10)) Q) (k18 : ((zI h 35 10) < (zI h 35 4)) → (¬ (zI h 35 4) ≤ (zI h 35 10)) → (((zI h 36 ((zI h 35 10)).toNatClampNeg) &&& (Int32.ofInt 255)) < (Int32.ofInt 97)) → (¬ ((zI h 36 ((zI h 35 10)).toNatClampNeg) &&& (Int32.ofInt 255)) < (Int32.ofInt 48)) → (¬ (Int32.ofInt 57) < ((zI h 36 ((zI h 35 10)).toNatClampNeg) &&& (Int32.ofInt 255))) → WP 128 210 [some (.ref 35), some (.int ((zI h 36 ((zI h 35 10)).toNatClampNeg) &&& (Int32.ofInt 255)))] [] (yI (yI h 35 11 (zI h 35 10)) 35 12 (Int32.ofInt 0)) Q) (k23 : ((zI h 35 10) < (zI h 35 4)) → (¬ (zI h 35 4) ≤ (zI h 35 10)) → (¬ ((zI h 36 ((zI h 35 10)).toNatClampNeg) &&& (Int32.ofInt 255)) < (Int32.ofInt 97)) → ((Int32.ofInt 122) < ((zI h 36 ((zI h 35 10)).toNatClampNeg) &&& (Int32.ofInt 255))) → (((zI h 36 ((zI h 35 10)).toNatClampNeg) &&& (Int32.ofInt 255)) < (Int32.ofInt 48)) → WP 128 298 [some (.ref 35), some (.int ((zI h 36 ((zI h 35 10)).toNatClampNeg) &&& (Int32.ofInt 255)))] [] (yI h 35 11 (zI h 35 10)) Q) (k26 : ((zI h 35 10) < (zI h 35 4)) → (¬ (zI h 35 4) ≤ (zI h 35 10)) → (¬ ((zI h 36 ((zI h 35 10)).toNatClampNeg) &&& (Int32.ofInt 255)) < (Int32.ofInt 97)) → ((Int32.ofInt 122) < ((zI h 36 ((zI h 35 10)).toNatClampNeg) &&& (Int32.ofInt 255))) → (¬ ((zI h 36 ((zI h 35 10)).toNatClampNeg) &&& (Int32.ofInt 255)) < (Int32.ofInt 48)) → ((Int32.ofInt 57) < ((zI h 36 ((zI h 35 10)).toNatClampNeg) &&& (Int32.ofInt 255))) → WP 128 298 [some (.ref 35), some (.int ((zI h 36 ((zI h 35 10)).toNatClampNeg) &&& (Int32.ofInt 255)))] [] (yI h 35 11 (zI h 35 10)) Q) (k28 : ((zI h 35 10) < (zI h 35 4)) → (¬ (zI h 35 4) ≤ (zI h 35 10)) → (¬ ((zI h 36 ((zI h 35 10)).toNatClampNeg) &&& (Int32.ofInt 255)) < (Int32.ofInt 97)) → ((Int32.ofInt 122) < ((zI h 36 ((zI h 35 10)).toNatClampNeg) &&& (Int32.ofInt 255))) → (¬ ((zI h 36 ((zI h 35 10)).toNatClampNeg) &&& (Int32.ofInt 255)) < (Int32.ofInt 48)) → (¬ (Int32.ofInt 57) < ((zI h 36 ((zI h 35 10)).toNatClampNeg) &&& (Int32.ofInt 255))) → WP 128 210 [some (.ref 35), some (.int ((zI h 36 ((zI h 35 10)).toNatClampNeg) &&& (Int32.ofInt 255)))] [] (yI (yI h 35 11 (zI h 35 10)) 35 12 (Int32.ofInt 0)) Q) (k30 : ((zI h 35 10) < (zI h 35 4)) → (¬ (zI h 35 4) ≤ (zI h 35 10)) → (¬ ((zI h 36 ((zI h 35 10)).toNatClampNeg) &&& (Int32.ofInt 255)) < (Int32.ofInt 97)) → (¬ (Int32.ofInt 122) < ((zI h 36 ((zI h 35 10)).toNatClampNeg) &&& (Int32.ofInt 255))) → WP 128 109 [some (.ref 35), some (.int ((zI h 36 ((zI h 35 10)).toNatClampNeg) &&& (Int32.ofInt 255)))] [] (yJ (yI (yI h 35 11 (zI h 35 10)) 35 9 (Int32.ofInt 1)) 35 14 (Int64.ofNat 0)) Q) (k31 : (¬ (zI h 35 10) < (zI h 35 4)) → Q none (yI (yI h 35 11 (zI h 35 10)) 35 9 (Int32.ofInt 0))) : WP 128 58 [some (.ref 35), d1] [] h Q :=
  B128_58 (S.T 35) (fun c1 => B128_83 (S.T 35) (B125_0 (S.T 35) (fun c2 => B125_21 (B125_22 (B128_91 (B126_0 (fun _ => B126_16 (B126_17 oi0 (B128_96 (fun _ => B128_198 (B127_0 (fun _ => B127_16 (B127_17 oi0 (B128_202 (fun _ => k7 c1 c2) (fun q => absurd (by decide) q)))) (fun q => absurd (by decide) q))) (fun q => absurd (by decide) q)))) (fun q => absurd (by decide) q))))) (fun c2 => B125_8 (S.T 35) (S.R 35 2) ⟨(S.T 36), (S.bd 36 (g8 c1 c2))⟩ (B125_22 (B128_91 (B126_0 (fun c9 => B126_16 (B126_17 oi0 (B128_96 (fun _ => B128_198 (B127_0 (fun c11 => B127_16 (B127_17 oi0 (B128_202 (fun _ => k13 c1 c2 c9 c11) (fun q => absurd (by decide) q)))) (fun c11 => B127_6 (fun c14 => B127_16 (B127_17 oi0 (B128_202 (fun _ => k16 c1 c2 c9 c11 c14) (fun q => absurd (by decide) q)))) (fun c14 => B127_12 (B127_17 oi1 (B128_202 (fun q => absurd q (by decide)) (fun _ => B128_205 (S.T 35) (k18 c1 c2 c9 c11 c14)))))))) (fun q => absurd (by decide) q)))) (fun c9 => B126_6 (fun c19 => B126_16 (B126_17 oi0 (B128_96 (fun _ => B128_198 (B127_0 (fun c21 => B127_16 (B127_17 oi0 (B128_202 (fun _ => k23 c1 c2 c9 c19 c21) (fun q => absurd (by decide) q)))) (fun c21 => B127_6 (fun c24 => B127_16 (B127_17 oi0 (B128_202 (fun _ => k26 c1 c2 c9 c19 c21 c24) (fun q => absurd (by decide) q)))) (fun c24 => B127_12 (B127_17 oi1 (B128_202 (fun q => absurd q (by decide)) (fun _ => B128_205 (S.T 35) (k28 c1 c2 c9 c19 c21 c24)))))))) (fun q => absurd (by decide) q)))) (fun c19 => B126_12 (B126_17 oi1 (B128_96 (fun q => absurd q (by decide)) (fun _ => B128_99 (S.T 35) (k30 c1 c2 c9 c19)))))))))))) (fun c1 => B128_77 (S.T 35) (k31 c1))
theorem V128L {h : pm_H} {Q : Option Value → pm_H → Prop} {c : Int32} (S : SK h) (k4 : ((zI h 35 4) ≤ (zI h 35 11)) → Q none (yI h 35 13 ((zI h 35 11) - (zI h 35 10)))) (g5 : (¬ (zI h 35 4) ≤ (zI h 35 11)) → vp_in (zI h 35 11) 800) (k8 : (¬ (zI h 35 4) ≤ (zI h 35 11)) → (((zI h 36 ((zI h 35 11)).toNatClampNeg) &&& (Int32.ofInt 255)) < (Int32.ofInt 97)) → Q none (yI h 35 13 ((zI h 35 11) - (zI h 35 10)))) (k11 : (¬ (zI h 35 4) ≤ (zI h 35 11)) → (¬ ((zI h 36 ((zI h 35 11)).toNatClampNeg) &&& (Int32.ofInt 255)) < (Int32.ofInt 97)) → ((Int32.ofInt 122) < ((zI h 36 ((zI h 35 11)).toNatClampNeg) &&& (Int32.ofInt 255))) → Q none (yI h 35 13 ((zI h 35 11) - (zI h 35 10)))) (k14 : (¬ (zI h 35 4) ≤ (zI h 35 11)) → (¬ ((zI h 36 ((zI h 35 11)).toNatClampNeg) &&& (Int32.ofInt 255)) < (Int32.ofInt 97)) → (¬ (Int32.ofInt 122) < ((zI h 36 ((zI h 35 11)).toNatClampNeg) &&& (Int32.ofInt 255))) → ((Int32.ofInt 12) ≤ ((zI h 35 11) - (zI h 35 10))) → WP 128 109 [some (.ref 35), some (.int c)] [] (yI (yJ h 35 14 (Int64.ofInt (-1))) 35 11 ((zI h 35 11) + (Int32.ofInt 1))) Q) (k16 : (¬ (zI h 35 4) ≤ (zI h 35 11)) → (¬ ((zI h 36 ((zI h 35 11)).toNatClampNeg) &&& (Int32.ofInt 255)) < (Int32.ofInt 97)) → (¬ (Int32.ofInt 122) < ((zI h 36 ((zI h 35 11)).toNatClampNeg) &&& (Int32.ofInt 255))) → (¬ (Int32.ofInt 12) ≤ ((zI h 35 11) - (zI h 35 10))) → ((zI h 35 4) ≤ (zI h 35 11)) → WP 128 109 [some (.ref 35), some (.int c)] [] (yI (yJ h 35 14 ((((zJ h 35 14) * (Int64.ofInt 32)) + ((Int32.ofInt 0)).toInt64) - (Int64.ofInt 96))) 35 11 ((zI h 35 11) + (Int32.ofInt 1))) Q) (g17 : (¬ (zI h 35 4) ≤ (zI h 35 11)) → (¬ ((zI h 36 ((zI h 35 11)).toNatClampNeg) &&& (Int32.ofInt 255)) < (Int32.ofInt 97)) → (¬ (Int32.ofInt 122) < ((zI h 36 ((zI h 35 11)).toNatClampNeg) &&& (Int32.ofInt 255))) → (¬ (Int32.ofInt 12) ≤ ((zI h 35 11) - (zI h 35 10))) → (¬ (zI h 35 4) ≤ (zI h 35 11)) → vp_in (zI h 35 11) 800) (k18 : (¬ (zI h 35 4) ≤ (zI h 35 11)) → (¬ ((zI h 36 ((zI h 35 11)).toNatClampNeg) &&& (Int32.ofInt 255)) < (Int32.ofInt 97)) → (¬ (Int32.ofInt 122) < ((zI h 36 ((zI h 35 11)).toNatClampNeg) &&& (Int32.ofInt 255))) → (¬ (Int32.ofInt 12) ≤ ((zI h 35 11) - (zI h 35 10))) → (¬ (zI h 35 4) ≤ (zI h 35 11)) → WP 128 109 [some (.ref 35), some (.int c)] [] (yI (yJ h 35 14 ((((zJ h 35 14) * (Int64.ofInt 32)) + (((zI h 36 ((zI h 35 11)).toNatClampNeg) &&& (Int32.ofInt 255))).toInt64) - (Int64.ofInt 96))) 35 11 ((zI h 35 11) + (Int32.ofInt 1))) Q) : WP 128 109 [some (.ref 35), some (.int c)] [] h Q :=
  B128_109 (S.T 35) (B125_0 (S.T 35) (fun c1 => B125_21 (B125_22 (B128_117 (B126_0 (fun _ => B126_16 (B126_17 oi0 (B128_120 (fun _ => B128_182 (S.T 35) (B128_358 (k4 c1))) (fun q => absurd (by decide) q)))) (fun q => absurd (by decide) q))))) (fun c1 => B125_8 (S.T 35) (S.R 35 2) ⟨(S.T 36), (S.bd 36 (g5 c1))⟩ (B125_22 (B128_117 (B126_0 (fun c6 => B126_16 (B126_17 oi0 (B128_120 (fun _ => B128_182 (S.T 35) (B128_358 (k8 c1 c6))) (fun q => absurd (by decide) q)))) (fun c6 => B126_6 (fun c9 => B126_16 (B126_17 oi0 (B128_120 (fun _ => B128_182 (S.T 35) (B128_358 (k11 c1 c6 c9))) (fun q => absurd (by decide) q)))) (fun c9 => B126_12 (B126_17 oi1 (B128_120 (fun q => absurd q (by decide)) (fun _ => B128_123 (S.T 35) (fun c13 => B128_163 (B128_166 (S.T 35) (S.T 35) (k14 c1 c6 c9 c13))) (fun c13 => B128_138 (S.T 35) (B125_0 (S.T 35) (fun c15 => B125_21 (B125_22 (B128_154 (B128_166 (S.T 35) (S.T 35) (k16 c1 c6 c9 c13 c15))))) (fun c15 => B125_8 (S.T 35) (S.R 35 2) ⟨(S.T 36), (S.bd 36 (g17 c1 c6 c9 c13 c15))⟩ (B125_22 (B128_154 (B128_166 (S.T 35) (S.T 35) (k18 c1 c6 c9 c13 c15)))))))))))))))))
theorem V128D {h : pm_H} {Q : Option Value → pm_H → Prop} {c : Int32} (S : SK h) (k4 : ((zI h 35 4) ≤ (zI h 35 11)) → WP 128 273 [some (.ref 35), some (.int c)] [] h Q) (g5 : (¬ (zI h 35 4) ≤ (zI h 35 11)) → vp_in (zI h 35 11) 800) (k8 : (¬ (zI h 35 4) ≤ (zI h 35 11)) → (((zI h 36 ((zI h 35 11)).toNatClampNeg) &&& (Int32.ofInt 255)) < (Int32.ofInt 48)) → WP 128 273 [some (.ref 35), some (.int c)] [] h Q) (k11 : (¬ (zI h 35 4) ≤ (zI h 35 11)) → (¬ ((zI h 36 ((zI h 35 11)).toNatClampNeg) &&& (Int32.ofInt 255)) < (Int32.ofInt 48)) → ((Int32.ofInt 57) < ((zI h 36 ((zI h 35 11)).toNatClampNeg) &&& (Int32.ofInt 255))) → WP 128 273 [some (.ref 35), some (.int c)] [] h Q) (k14 : (¬ (zI h 35 4) ≤ (zI h 35 11)) → (¬ ((zI h 36 ((zI h 35 11)).toNatClampNeg) &&& (Int32.ofInt 255)) < (Int32.ofInt 48)) → (¬ (Int32.ofInt 57) < ((zI h 36 ((zI h 35 11)).toNatClampNeg) &&& (Int32.ofInt 255))) → ((Int32.ofInt 4) ≤ ((zI h 35 11) - (zI h 35 10))) → WP 128 210 [some (.ref 35), some (.int c)] [] (yI h 35 11 ((zI h 35 11) + (Int32.ofInt 1))) Q) (k16 : (¬ (zI h 35 4) ≤ (zI h 35 11)) → (¬ ((zI h 36 ((zI h 35 11)).toNatClampNeg) &&& (Int32.ofInt 255)) < (Int32.ofInt 48)) → (¬ (Int32.ofInt 57) < ((zI h 36 ((zI h 35 11)).toNatClampNeg) &&& (Int32.ofInt 255))) → (¬ (Int32.ofInt 4) ≤ ((zI h 35 11) - (zI h 35 10))) → ((zI h 35 4) ≤ (zI h 35 11)) → WP 128 210 [some (.ref 35), some (.int c)] [] (yI (yI h 35 12 ((((Int32.ofInt 10) * (zI h 35 12)) + (Int32.ofInt 0)) - (Int32.ofInt 48))) 35 11 ((zI h 35 11) + (Int32.ofInt 1))) Q) (g17 : (¬ (zI h 35 4) ≤ (zI h 35 11)) → (¬ ((zI h 36 ((zI h 35 11)).toNatClampNeg) &&& (Int32.ofInt 255)) < (Int32.ofInt 48)) → (¬ (Int32.ofInt 57) < ((zI h 36 ((zI h 35 11)).toNatClampNeg) &&& (Int32.ofInt 255))) → (¬ (Int32.ofInt 4) ≤ ((zI h 35 11) - (zI h 35 10))) → (¬ (zI h 35 4) ≤ (zI h 35 11)) → vp_in (zI h 35 11) 800) (k18 : (¬ (zI h 35 4) ≤ (zI h 35 11)) → (¬ ((zI h 36 ((zI h 35 11)).toNatClampNeg) &&& (Int32.ofInt 255)) < (Int32.ofInt 48)) → (¬ (Int32.ofInt 57) < ((zI h 36 ((zI h 35 11)).toNatClampNeg) &&& (Int32.ofInt 255))) → (¬ (Int32.ofInt 4) ≤ ((zI h 35 11) - (zI h 35 10))) → (¬ (zI h 35 4) ≤ (zI h 35 11)) → WP 128 210 [some (.ref 35), some (.int c)] [] (yI (yI h 35 12 ((((Int32.ofInt 10) * (zI h 35 12)) + ((zI h 36 ((zI h 35 11)).toNatClampNeg) &&& (Int32.ofInt 255))) - (Int32.ofInt 48))) 35 11 ((zI h 35 11) + (Int32.ofInt 1))) Q) : WP 128 210 [some (.ref 35), some (.int c)] [] h Q :=
  B128_210 (S.T 35) (B125_0 (S.T 35) (fun c1 => B125_21 (B125_22 (B128_218 (B127_0 (fun _ => B127_16 (B127_17 oi0 (B128_221 (fun _ => k4 c1) (fun q => absurd (by decide) q)))) (fun q => absurd (by decide) q))))) (fun c1 => B125_8 (S.T 35) (S.R 35 2) ⟨(S.T 36), (S.bd 36 (g5 c1))⟩ (B125_22 (B128_218 (B127_0 (fun c6 => B127_16 (B127_17 oi0 (B128_221 (fun _ => k8 c1 c6) (fun q => absurd (by decide) q)))) (fun c6 => B127_6 (fun c9 => B127_16 (B127_17 oi0 (B128_221 (fun _ => k11 c1 c6 c9) (fun q => absurd (by decide) q)))) (fun c9 => B127_12 (B127_17 oi1 (B128_221 (fun q => absurd q (by decide)) (fun _ => B128_224 (S.T 35) (fun c13 => B128_260 (S.T 35) (k14 c1 c6 c9 c13)) (fun c13 => B128_237 (S.T 35) (B125_0 (S.T 35) (fun c15 => B125_21 (B125_22 (B128_253 (S.T 35) (B128_260 (S.T 35) (k16 c1 c6 c9 c13 c15))))) (fun c15 => B125_8 (S.T 35) (S.R 35 2) ⟨(S.T 36), (S.bd 36 (g17 c1 c6 c9 c13 c15))⟩ (B125_22 (B128_253 (S.T 35) (B128_260 (S.T 35) (k18 c1 c6 c9 c13 c15)))))))))))))))))
theorem V128E {h : pm_H} {Q : Option Value → pm_H → Prop} {c : Int32} (S : SK h) (k2 : (((zI h 35 11) - (zI h 35 10)) ≤ (Int32.ofInt 4)) → Q none (yI h 35 9 (Int32.ofInt 2))) (k3 : (¬ ((zI h 35 11) - (zI h 35 10)) ≤ (Int32.ofInt 4)) → Q none (yI h 35 9 (Int32.ofInt 4))) : WP 128 273 [some (.ref 35), some (.int c)] [] h Q :=
  B128_273 (S.T 35) (fun c1 => B128_291 (B128_292 (S.T 35) (B128_358 (k2 c1)))) (fun c1 => B128_287 (B128_292 (S.T 35) (B128_358 (k3 c1))))
theorem V128G {h : pm_H} {Q : Option Value → pm_H → Prop} {c : Int32} (S : SK h) (k2 : (c = (Int32.ofInt 40)) → Q none (yI (yI (yI h 35 11 ((zI h 35 10) + (Int32.ofInt 1))) 35 12 c) 35 9 (Int32.ofInt 3))) (k4 : (¬ c = (Int32.ofInt 40)) → (c = (Int32.ofInt 41)) → Q none (yI (yI (yI h 35 11 ((zI h 35 10) + (Int32.ofInt 1))) 35 12 c) 35 9 (Int32.ofInt 3))) (k6 : (¬ c = (Int32.ofInt 40)) → (¬ c = (Int32.ofInt 41)) → (c = (Int32.ofInt 59)) → Q none (yI (yI (yI h 35 11 ((zI h 35 10) + (Int32.ofInt 1))) 35 12 c) 35 9 (Int32.ofInt 3))) (k8 : (¬ c = (Int32.ofInt 40)) → (¬ c = (Int32.ofInt 41)) → (¬ c = (Int32.ofInt 59)) → (c = (Int32.ofInt 44)) → Q none (yI (yI (yI h 35 11 ((zI h 35 10) + (Int32.ofInt 1))) 35 12 c) 35 9 (Int32.ofInt 3))) (k10 : (¬ c = (Int32.ofInt 40)) → (¬ c = (Int32.ofInt 41)) → (¬ c = (Int32.ofInt 59)) → (¬ c = (Int32.ofInt 44)) → (c = (Int32.ofInt 43)) → Q none (yI (yI (yI h 35 11 ((zI h 35 10) + (Int32.ofInt 1))) 35 12 c) 35 9 (Int32.ofInt 3))) (k12 : (¬ c = (Int32.ofInt 40)) → (¬ c = (Int32.ofInt 41)) → (¬ c = (Int32.ofInt 59)) → (¬ c = (Int32.ofInt 44)) → (¬ c = (Int32.ofInt 43)) → (¬ c = (Int32.ofInt 58)) → Q none (yI (yI (yI h 35 11 ((zI h 35 10) + (Int32.ofInt 1))) 35 12 c) 35 9 (Int32.ofInt 4))) (k13 : (¬ c = (Int32.ofInt 40)) → (¬ c = (Int32.ofInt 41)) → (¬ c = (Int32.ofInt 59)) → (¬ c = (Int32.ofInt 44)) → (¬ c = (Int32.ofInt 43)) → (c = (Int32.ofInt 58)) → Q none (yI (yI (yI h 35 11 ((zI h 35 10) + (Int32.ofInt 1))) 35 12 c) 35 9 (Int32.ofInt 3))) : WP 128 298 [some (.ref 35), some (.int c)] [] h Q :=
  B128_298 (S.T 35) (fun c1 => B128_350 (B128_355 (S.T 35) (B128_358 (k2 c1)))) (fun c1 => B128_320 (fun c3 => B128_350 (B128_355 (S.T 35) (B128_358 (k4 c1 c3)))) (fun c3 => B128_326 (fun c5 => B128_350 (B128_355 (S.T 35) (B128_358 (k6 c1 c3 c5)))) (fun c5 => B128_332 (fun c7 => B128_350 (B128_355 (S.T 35) (B128_358 (k8 c1 c3 c5 c7)))) (fun c7 => B128_338 (fun c9 => B128_350 (B128_355 (S.T 35) (B128_358 (k10 c1 c3 c5 c7 c9)))) (fun c9 => B128_344 (fun c11 => B128_354 (B128_355 (S.T 35) (B128_358 (k12 c1 c3 c5 c7 c9 c11)))) (fun c11 => B128_350 (B128_355 (S.T 35) (B128_358 (k13 c1 c3 c5 c7 c9 c11)))))))))
theorem zI_yJ (h : pm_H) (a k : Nat) (v : Int64) : zI (yJ h a k v) = zI h := rfl
theorem zJ_yI (h : pm_H) (a k : Nat) (v : Int32) : zJ (yI h a k v) = zJ h := rfl
theorem zJ_yJ (h : pm_H) (a k : Nat) (v : Int64) : zJ (yJ h a k v) a = va_up (zJ h a) k v := zJ_yLs _ _ _
/-- only the model's token differs -/
def TmS (h g : pm_H) : Prop := (∀ a, a ≠ 35 → zI g a = zI h a) ∧ (∀ k, k < 9 ∨ 13 < k → zI g 35 k = zI h 35 k) ∧ (∀ a, zT g a = zT h a) ∧ (∀ a, zN g a = zN h a) ∧ (∀ a, zR g a = zR h a) ∧ zn g = zn h ∧ zk g = zk h
theorem TmS.rf {h : pm_H} : TmS h h := ⟨fun _ _ => rfl, fun _ _ => rfl, fun _ => rfl, fun _ => rfl, fun _ => rfl, rfl, rfl⟩
theorem TmS.I {h g : pm_H} (t : TmS h g) (i : Nat) (v : Int32) (h1 : 9 ≤ i) (h2 : i ≤ 13) : TmS h (yI g 35 i v) := ⟨fun a ha => (zI_yAn g _ ha).trans (t.1 a ha), fun k hk => by
  rw [zI_yI, if_pos rfl, va_upA, if_neg (by omega)]; exact t.2.1 k hk, t.2.2⟩
theorem TmS.J {h g : pm_H} (t : TmS h g) (i : Nat) (v : Int64) : TmS h (yJ g 35 i v) := t
theorem TmS.tr {h g f : pm_H} (p : TmS h g) (q : TmS g f) : TmS h f := ⟨fun a ha => (q.1 a ha).trans (p.1 a ha), fun k hk => (q.2.1 k hk).trans (p.2.1 k hk), fun a => (q.2.2.1 a).trans (p.2.2.1 a), fun a => (q.2.2.2.1 a).trans (p.2.2.2.1 a), fun a => (q.2.2.2.2.1 a).trans (p.2.2.2.2.1 a), q.2.2.2.2.2.1.trans p.2.2.2.2.2.1, q.2.2.2.2.2.2.trans p.2.2.2.2.2.2⟩
theorem TmS.SK {h g : pm_H} (k : TmS h g) (s : SK h) : SK g :=
  ⟨fun a ha => (k.2.2.1 a).trans (s.1 a ha), fun a ha => (k.2.2.2.1 a).trans (s.2.1 a ha), fun a i hi => (congrFun (k.2.2.2.2.1 a) i).trans (s.2.2.1 a i hi), by rw [k.2.2.2.2.2.1]; exact s.2.2.2⟩
def cdZ (ch : Nat → Nat) (s : Nat) : Nat → Int
  | 0 => 0
  | k + 1 => cdZ ch s k * 32 + ch (s + k) - 96
def mW (ch : Nat → Nat) (s k : Nat) : Int64 := if k ≤ 12 then Int64.ofInt (cdZ ch s k) else Int64.ofInt (-1)
theorem nI_64 {c : Nat} (hc : c < 2147483648) : (nI c).toInt64 = Int64.ofInt c := by
  apply Int64.toInt_inj.mp
  rw [Int32.toInt_toInt64, nI_i hc, Int64.toInt_ofInt_of_le (by omega) (by omega)]
theorem mW_S {ch : Nat → Nat} {s k : Nat} (hk : k < 12) (hc : ch (s + k) < 256) : mW ch s k * Int64.ofInt 32 + (nI (ch (s + k))).toInt64 - Int64.ofInt 96 = mW ch s (k + 1) := by
  unfold mW
  rw [if_pos (by omega), if_pos (by omega), nI_64 (by omega), ← Int64.ofInt_mul, ← Int64.ofInt_add, ← Int64.ofInt_sub]; rfl
section NEXT
variable {h : pm_H} {Q : Option Value → pm_H → Prop} {ch : Nat → Nat} {n : Nat}
theorem CH.lk {g : pm_H} (hch : CH h 36 ch n) (e : zI g 36 = zI h 36) {j : Nat} (hj : j < n) : zI g 36 j &&& nI 255 = nI (ch j) ∧ ch j < 256 := by
  rw [e]
  rcases hch j hj with ⟨c1, c2⟩ | ⟨c1, c2, -, c4⟩
  · refine ⟨?_, by omega⟩
    rw [c2, nAnd (by omega) (by omega)]
    have : ch j &&& 255 = ch j % 2 ^ 8 := Nat.and_two_pow_sub_one_eq_mod _ 8
    rw [this, Nat.mod_eq_of_lt (by omega)]
  · exact ⟨c4, c2⟩
theorem c128 {i : Nat} (S : SK h) (hn : n ≤ 800) (hi : i ≤ n) (e4 : zI h 35 4 = nI n) (e11 : zI h 35 11 = nI i) (hch : CH h 36 ch n) (k0 : ∀ g, TmS h g → zI g 35 9 = nI (tkd ch n i) → zI g 35 10 = nI (tpl ch n i) → zI g 35 11 = nI (tnx ch n i) → (tkd ch n i = 2 ∨ tkd ch n i = 3 → zI g 35 12 = nI (tvl ch n i)) → (tkd ch n i = 1 → zI g 35 13 = nI (tnx ch n i - tpl ch n i) ∧ zJ g 35 14 = mW ch (tpl ch n i) (tnx ch n i - tpl ch n i)) → Q none g) : WP 128 0 [some (.ref 35), none] [] h Q := by
  have sb := sc_b (p := isS) (ch := ch) hi
  have epl : sc isS ch n i = tpl ch n i := rfl
  rw [epl] at sb
  obtain ⟨s, es⟩ : ∃ s, s = tpl ch n i := ⟨_, rfl⟩
  have tk : tkd ch n i = if n ≤ s then 0 else if isL (ch s) then 1 else if isD (ch s) then (if sc isD ch n s - s ≤ 4 then 2 else 4) else if isG (ch s) then 3 else 4 := by rw [es]; rfl
  have tn : tnx ch n i = if n ≤ s then s else if isL (ch s) then sc isL ch n s else if isD (ch s) then sc isD ch n s else s + 1 := by rw [es]; rfl
  have tv : tvl ch n i = if isL (ch s) then wv ch s (tnx ch n i) else if isD (ch s) then nv ch s (tnx ch n i - s) else ch s := by rw [es]; rfl
  rw [← es] at sb k0
  -- behind the spaces
  have B : ∀ g d1, TmS h g → zI g 35 10 = nI s → WP 128 58 [some (.ref 35), d1] [] g Q := by
    intro g d1 tg f10
    have S' := tg.SK S
    have f4 : zI g 35 4 = nI n := by rw [tg.2.1 4 (by omega)]; exact e4
    by_cases hend : n ≤ s
    · rw [if_pos hend] at tk tn
      have F' := k0 (yI (yI g 35 11 (nI s)) 35 9 (nI 0)) ((tg.I 11 _ (by decide) (by decide)).I 9 _ (by decide) (by decide)) (by rw [tk]; simp [zI_yI, va_upA]) (by simp [zI_yI, va_upA, f10]) (by rw [tn]; simp [zI_yI, va_upA]) (by rw [tk]; omega) (by rw [tk]; omega)
      refine V128b  S' ?_ ?_ ?_ ?_ ?_ ?_ ?_ ?_ ?_ ?_ <;> simp (disch := omega) only [oi_l, oi_n, z_nI, nIA, nIM, nIS, nIlt, nIle, nIeq, nIC, vpI, Nat.add_sub_cancel, Nat.not_le, Nat.not_lt, Nat.not_lt_zero, Nat.le_refl, not_true_eq_false, not_false_eq_true, false_imp_iff, true_imp_iff, forall_const, implies_true, Nat.reduceEqDiff, Nat.reduceLeDiff, Nat.reduceLT, f4, f10, show ¬ s < n by omega] <;> first | omega | exact F'
    · rw [if_neg hend] at tk tn
      have hs : s < n := by omega
      obtain ⟨ck, cb⟩ := hch.lk (tg.1 36 (by decide)) hs
      cases hL : isL (ch s) with
      | true =>
        rw [if_pos hL] at tk tn tv
        have hL' := isL_t.mp hL
        have bL := sc_b (p := isL) (ch := ch) (show s ≤ n by omega)
        have W : ∀ m j (g' : pm_H) c, j + m = n → s ≤ j → TmS h g' → zI g' 35 9 = nI 1 → zI g' 35 10 = nI s → zI g' 35 11 = nI j → zJ g' 35 14 = mW ch s (j - s) → sc isL ch n j = sc isL ch n s → WP 128 109 [some (.ref 35), some (.int c)] [] g' Q := by
          intro m
          induction m with
          | zero =>
            intro j g' c hj hsj tg' r9 r10 r11 rJ ej
            obtain rfl : j = n := by omega
            have q4 : zI g' 35 4 = nI j := by rw [tg'.2.1 4 (by omega)]; exact e4
            rw [sc_n] at ej
            rw [← ej] at tn
            have F' := k0 (yI g' 35 13 (nI (j - s))) (tg'.I 13 _ (by decide) (by decide)) (by rw [tk]; simp [zI_yI, va_upA, r9]) (by simp [zI_yI, va_upA, r10]) (by rw [tn]; simp [zI_yI, va_upA, r11]) (by rw [tk]; omega) (fun _ => by rw [tn]; exact ⟨by simp [zI_yI, va_upA], rJ⟩)
            refine V128L  (tg'.SK S) ?_ ?_ ?_ ?_ ?_ ?_ ?_ ?_ <;> simp (disch := omega) only [oi_l, oi_n, z_nI, nIA, nIM, nIS, nIlt, nIle, nIeq, nIC, vpI, Nat.add_sub_cancel, Nat.not_le, Nat.not_lt, Nat.not_lt_zero, Nat.le_refl, not_true_eq_false, not_false_eq_true, false_imp_iff, true_imp_iff, forall_const, implies_true, Nat.reduceEqDiff, Nat.reduceLeDiff, Nat.reduceLT, q4, r10, r11] <;> first | omega | exact F'
          | succ m ih =>
            intro j g' c hj hsj tg' r9 r10 r11 rJ ej
            have q4 : zI g' 35 4 = nI n := by rw [tg'.2.1 4 (by omega)]; exact e4
            have hnj : ¬ n ≤ j := by omega
            obtain ⟨jk, jb⟩ := hch.lk (tg'.1 36 (by decide)) (show j < n by omega)
            rw [sc_st (by omega)] at ej
            cases hz : isL (ch j) with
            | true =>
              rw [if_pos hz] at ej
              rw [isL_t] at hz
              have I' : ∀ v, v = mW ch s (j + 1 - s) → WP 128 109 [some (.ref 35), some (.int c)] [] (yI (yJ g' 35 14 v) 35 11 (nI (j + 1))) Q := fun v ev => ih (j + 1) _ c (by omega) (by omega) ((tg'.J 14 v).I 11 _ (by decide) (by decide)) (by simp [zI_yI, zI_yJ, va_upA, r9]) (by simp [zI_yI, zI_yJ, va_upA, r10]) (by simp [zI_yI, va_upA]) (by rw [zJ_yI, zJ_yJ, va_upA, if_pos rfl]; exact ev) ej
              by_cases h12 : 12 ≤ j - s
              · have J' := I' (Int64.ofInt (-1)) (by unfold mW; rw [if_neg (by omega)])
                refine V128L  (tg'.SK S) ?_ ?_ ?_ ?_ ?_ ?_ ?_ ?_ <;> simp (disch := omega) only [oi_l, oi_n, z_nI, nIA, nIM, nIS, nIlt, nIle, nIeq, nIC, vpI, Nat.add_sub_cancel, Nat.not_le, Nat.not_lt, Nat.not_lt_zero, Nat.le_refl, not_true_eq_false, not_false_eq_true, false_imp_iff, true_imp_iff, forall_const, implies_true, Nat.reduceEqDiff, Nat.reduceLeDiff, Nat.reduceLT, q4, r10, r11, jk, hnj, eq_true h12, show ¬ ch j < 97 by omega, show ¬ 122 < ch j by omega] <;> first | omega | exact J'
              · have J' := I' (mW ch s (j - s) * Int64.ofInt 32 + (nI (ch j)).toInt64 - Int64.ofInt 96) (by
                  have := mW_S (ch := ch) (s := s) (k := j - s) (by omega) (by rw [show s + (j - s) = j by omega]; exact jb)
                  rw [show s + (j - s) = j by omega, show j - s + 1 = j + 1 - s by omega] at this
                  exact this)
                refine V128L  (tg'.SK S) ?_ ?_ ?_ ?_ ?_ ?_ ?_ ?_ <;> simp (disch := omega) only [oi_l, oi_n, z_nI, nIA, nIM, nIS, nIlt, nIle, nIeq, nIC, vpI, Nat.add_sub_cancel, Nat.not_le, Nat.not_lt, Nat.not_lt_zero, Nat.le_refl, not_true_eq_false, not_false_eq_true, false_imp_iff, true_imp_iff, forall_const, implies_true, Nat.reduceEqDiff, Nat.reduceLeDiff, Nat.reduceLT, q4, r10, r11, rJ, jk, hnj, h12, show ¬ ch j < 97 by omega, show ¬ 122 < ch j by omega] <;> first | omega | exact J'
            | false =>
              rw [if_neg (by rw [hz]; decide)] at ej
              rw [← ej] at tn
              rw [isL_f] at hz
              have F' := k0 (yI g' 35 13 (nI (j - s))) (tg'.I 13 _ (by decide) (by decide)) (by rw [tk]; simp [zI_yI, va_upA, r9]) (by simp [zI_yI, va_upA, r10]) (by rw [tn]; simp [zI_yI, va_upA, r11]) (by rw [tk]; omega) (fun _ => by rw [tn]; exact ⟨by simp [zI_yI, va_upA], rJ⟩)
              by_cases lt : ch j < 97
              · refine V128L  (tg'.SK S) ?_ ?_ ?_ ?_ ?_ ?_ ?_ ?_ <;> simp (disch := omega) only [oi_l, oi_n, z_nI, nIA, nIM, nIS, nIlt, nIle, nIeq, nIC, vpI, Nat.add_sub_cancel, Nat.not_le, Nat.not_lt, Nat.not_lt_zero, Nat.le_refl, not_true_eq_false, not_false_eq_true, false_imp_iff, true_imp_iff, forall_const, implies_true, Nat.reduceEqDiff, Nat.reduceLeDiff, Nat.reduceLT, q4, r10, r11, jk, hnj, lt] <;> first | omega | exact F'
              · refine V128L  (tg'.SK S) ?_ ?_ ?_ ?_ ?_ ?_ ?_ ?_ <;> simp (disch := omega) only [oi_l, oi_n, z_nI, nIA, nIM, nIS, nIlt, nIle, nIeq, nIC, vpI, Nat.add_sub_cancel, Nat.not_le, Nat.not_lt, Nat.not_lt_zero, Nat.le_refl, not_true_eq_false, not_false_eq_true, false_imp_iff, true_imp_iff, forall_const, implies_true, Nat.reduceEqDiff, Nat.reduceLeDiff, Nat.reduceLT, q4, r10, r11, jk, hnj, lt, show 122 < ch j by omega] <;> first | omega | exact F'
        have W' := W (n - s) s (yJ (yI (yI g 35 11 (nI s)) 35 9 (nI 1)) 35 14 (Int64.ofNat 0)) (nI (ch s)) (by omega) (Nat.le_refl _) (((tg.I 11 _ (by decide) (by decide)).I 9 _ (by decide) (by decide)).J 14 _) (by simp [zI_yI, zI_yJ, va_upA]) (by simp [zI_yI, zI_yJ, va_upA, f10]) (by simp [zI_yI, zI_yJ, va_upA]) (by rw [zJ_yJ, va_upA, if_pos rfl, Nat.sub_self]; rfl) rfl
        refine V128b  S' ?_ ?_ ?_ ?_ ?_ ?_ ?_ ?_ ?_ ?_ <;> simp (disch := omega) only [oi_l, oi_n, z_nI, nIA, nIM, nIS, nIlt, nIle, nIeq, nIC, vpI, Nat.add_sub_cancel, Nat.not_le, Nat.not_lt, Nat.not_lt_zero, Nat.le_refl, not_true_eq_false, not_false_eq_true, false_imp_iff, true_imp_iff, forall_const, implies_true, Nat.reduceEqDiff, Nat.reduceLeDiff, Nat.reduceLT, f4, f10, ck, hs, show ¬ n ≤ s by omega, show ¬ ch s < 97 by omega, show ¬ 122 < ch s by omega] <;> first | omega | exact W'
      | false =>
        rw [hL] at tk tn tv
        simp only [Bool.false_eq_true, if_false] at tk tn tv
        have hL' := isL_f.mp hL
        cases hD : isD (ch s) with
        | true =>
          rw [if_pos hD] at tk tn tv
          have hD' := isD_t.mp hD
          have hl : ∀ j, s ≤ j → j < sc isD ch n s → 48 ≤ ch j ∧ ch j ≤ 57 := fun j h1 h2 => isD_t.mp (scf_in isD ch (n - s) s j h1 h2)
          have E : ∀ (g' : pm_H) c, TmS h g' → zI g' 35 10 = nI s → zI g' 35 11 = nI (sc isD ch n s) → (sc isD ch n s - s ≤ 4 → zI g' 35 12 = nI (nv ch s (sc isD ch n s - s))) → WP 128 273 [some (.ref 35), some (.int c)] [] g' Q := by
            intro g' c tg' r10 r11 r12
            have bD := sc_b (p := isD) (ch := ch) (show s ≤ n by omega)
            by_cases l4 : sc isD ch n s - s ≤ 4
            · rw [if_pos l4] at tk
              have F' := k0 (yI g' 35 9 (nI 2)) (tg'.I 9 _ (by decide) (by decide)) (by rw [tk]; simp [zI_yI, va_upA]) (by simp [zI_yI, va_upA, r10]) (by rw [tn]; simp [zI_yI, va_upA, r11]) (fun _ => by rw [tv, tn]; simp [zI_yI, va_upA, r12 l4]) (by rw [tk]; omega)
              refine V128E  (tg'.SK S) ?_ ?_ <;> simp (disch := omega) only [oi_l, oi_n, z_nI, nIA, nIM, nIS, nIlt, nIle, nIeq, nIC, vpI, Nat.add_sub_cancel, Nat.not_le, Nat.not_lt, Nat.not_lt_zero, Nat.le_refl, not_true_eq_false, not_false_eq_true, false_imp_iff, true_imp_iff, forall_const, implies_true, Nat.reduceEqDiff, Nat.reduceLeDiff, Nat.reduceLT, r10, r11, eq_true l4] <;> first | omega | exact F'
            · rw [if_neg l4] at tk
              have F' := k0 (yI g' 35 9 (nI 4)) (tg'.I 9 _ (by decide) (by decide)) (by rw [tk]; simp [zI_yI, va_upA]) (by simp [zI_yI, va_upA, r10]) (by rw [tn]; simp [zI_yI, va_upA, r11]) (by rw [tk]; omega) (by rw [tk]; omega)
              refine V128E  (tg'.SK S) ?_ ?_ <;> simp (disch := omega) only [oi_l, oi_n, z_nI, nIA, nIM, nIS, nIlt, nIle, nIeq, nIC, vpI, Nat.add_sub_cancel, Nat.not_le, Nat.not_lt, Nat.not_lt_zero, Nat.le_refl, not_true_eq_false, not_false_eq_true, false_imp_iff, true_imp_iff, forall_const, implies_true, Nat.reduceEqDiff, Nat.reduceLeDiff, Nat.reduceLT, r10, r11, l4] <;> first | omega | exact F'
          have W : ∀ m j (g' : pm_H) c, j + m = n → s ≤ j → TmS h g' → zI g' 35 10 = nI s → zI g' 35 11 = nI j → (j - s ≤ 4 → zI g' 35 12 = nI (nv ch s (j - s))) → j ≤ sc isD ch n s → sc isD ch n j = sc isD ch n s → WP 128 210 [some (.ref 35), some (.int c)] [] g' Q := by
            intro m
            induction m with
            | zero =>
              intro j g' c hj hsj tg' r10 r11 r12 lj ej
              obtain rfl : j = n := by omega
              have q4 : zI g' 35 4 = nI j := by rw [tg'.2.1 4 (by omega)]; exact e4
              rw [sc_n] at ej
              have E' := E g' c tg' r10 (by rw [r11, ← ej]) (by rw [← ej]; exact r12)
              refine V128D  (tg'.SK S) ?_ ?_ ?_ ?_ ?_ ?_ ?_ ?_ <;> simp (disch := omega) only [oi_l, oi_n, z_nI, nIA, nIM, nIS, nIlt, nIle, nIeq, nIC, vpI, Nat.add_sub_cancel, Nat.not_le, Nat.not_lt, Nat.not_lt_zero, Nat.le_refl, not_true_eq_false, not_false_eq_true, false_imp_iff, true_imp_iff, forall_const, implies_true, Nat.reduceEqDiff, Nat.reduceLeDiff, Nat.reduceLT, q4, r10, r11] <;> first | omega | exact E'
            | succ m ih =>
              intro j g' c hj hsj tg' r10 r11 r12 lj ej
              have q4 : zI g' 35 4 = nI n := by rw [tg'.2.1 4 (by omega)]; exact e4
              have hnj : ¬ n ≤ j := by omega
              obtain ⟨jk, jb⟩ := hch.lk (tg'.1 36 (by decide)) (show j < n by omega)
              rw [sc_st (by omega)] at ej
              cases hz : isD (ch j) with
              | true =>
                rw [if_pos hz] at ej
                have lj' : j + 1 ≤ sc isD ch n s := by rw [← ej]; exact (sc_b (by omega)).1
                rw [isD_t] at hz
                by_cases h4 : 4 ≤ j - s
                · have J' := ih (j + 1) (yI g' 35 11 (nI (j + 1))) c (by omega) (by omega) (tg'.I 11 _ (by decide) (by decide)) (by simp [zI_yI, va_upA, r10]) (by simp [zI_yI, va_upA]) (fun q => by omega) lj' ej
                  refine V128D  (tg'.SK S) ?_ ?_ ?_ ?_ ?_ ?_ ?_ ?_ <;> simp (disch := omega) only [oi_l, oi_n, z_nI, nIA, nIM, nIS, nIlt, nIle, nIeq, nIC, vpI, Nat.add_sub_cancel, Nat.not_le, Nat.not_lt, Nat.not_lt_zero, Nat.le_refl, not_true_eq_false, not_false_eq_true, false_imp_iff, true_imp_iff, forall_const, implies_true, Nat.reduceEqDiff, Nat.reduceLeDiff, Nat.reduceLT, q4, r10, r11, jk, hnj, eq_true h4, show ¬ ch j < 48 by omega, show ¬ 57 < ch j by omega] <;> first | omega | exact J'
                · have b := nv_b (ch := ch) (s := s) (j - s) (by omega) (fun t ht => hl (s + t) (by omega) (by omega))
                  have b' := p10 (show j - s ≤ 4 by omega)
                  have J' := ih (j + 1) (yI (yI g' 35 12 (nI (10 * nv ch s (j - s) + ch j - 48))) 35 11 (nI (j + 1))) c (by omega) (by omega) ((tg'.I 12 _ (by decide) (by decide)).I 11 _ (by decide) (by decide)) (by simp [zI_yI, va_upA, r10]) (by simp [zI_yI, va_upA]) (fun q => by
                    have e : 10 * nv ch s (j - s) + ch j - 48 = nv ch s (j + 1 - s) := by
                      rw [show j + 1 - s = (j - s) + 1 by omega, nv, show s + (j - s) = j by omega]; omega
                    rw [e]; simp [zI_yI, va_upA]) lj' ej
                  have r12' := r12 (by omega)
                  refine V128D  (tg'.SK S) ?_ ?_ ?_ ?_ ?_ ?_ ?_ ?_ <;> simp (disch := omega) only [oi_l, oi_n, z_nI, nIA, nIM, nIS, nIlt, nIle, nIeq, nIC, vpI, Nat.add_sub_cancel, Nat.not_le, Nat.not_lt, Nat.not_lt_zero, Nat.le_refl, not_true_eq_false, not_false_eq_true, false_imp_iff, true_imp_iff, forall_const, implies_true, Nat.reduceEqDiff, Nat.reduceLeDiff, Nat.reduceLT, q4, r10, r11, r12', jk, hnj, h4, show ¬ ch j < 48 by omega, show ¬ 57 < ch j by omega] <;> first | omega | exact J'
              | false =>
                rw [if_neg (by rw [hz]; decide)] at ej
                rw [isD_f] at hz
                have E' := E g' c tg' r10 (by rw [r11, ej]) (by rw [← ej]; exact r12)
                by_cases lt : ch j < 48
                · refine V128D  (tg'.SK S) ?_ ?_ ?_ ?_ ?_ ?_ ?_ ?_ <;> simp (disch := omega) only [oi_l, oi_n, z_nI, nIA, nIM, nIS, nIlt, nIle, nIeq, nIC, vpI, Nat.add_sub_cancel, Nat.not_le, Nat.not_lt, Nat.not_lt_zero, Nat.le_refl, not_true_eq_false, not_false_eq_true, false_imp_iff, true_imp_iff, forall_const, implies_true, Nat.reduceEqDiff, Nat.reduceLeDiff, Nat.reduceLT, q4, r10, r11, jk, hnj, lt] <;> first | omega | exact E'
                · refine V128D  (tg'.SK S) ?_ ?_ ?_ ?_ ?_ ?_ ?_ ?_ <;> simp (disch := omega) only [oi_l, oi_n, z_nI, nIA, nIM, nIS, nIlt, nIle, nIeq, nIC, vpI, Nat.add_sub_cancel, Nat.not_le, Nat.not_lt, Nat.not_lt_zero, Nat.le_refl, not_true_eq_false, not_false_eq_true, false_imp_iff, true_imp_iff, forall_const, implies_true, Nat.reduceEqDiff, Nat.reduceLeDiff, Nat.reduceLT, q4, r10, r11, jk, hnj, lt, show 57 < ch j by omega] <;> first | omega | exact E'
          have W' := W (n - s) s (yI (yI g 35 11 (nI s)) 35 12 (nI 0)) (nI (ch s)) (by omega) (Nat.le_refl _) ((tg.I 11 _ (by decide) (by decide)).I 12 _ (by decide) (by decide)) (by simp [zI_yI, va_upA, f10]) (by simp [zI_yI, va_upA]) (fun _ => by rw [Nat.sub_self]; simp [zI_yI, va_upA, nv]) (sc_b (by omega)).1 rfl
          refine V128b  S' ?_ ?_ ?_ ?_ ?_ ?_ ?_ ?_ ?_ ?_ <;> simp (disch := omega) only [oi_l, oi_n, z_nI, nIA, nIM, nIS, nIlt, nIle, nIeq, nIC, vpI, Nat.add_sub_cancel, Nat.not_le, Nat.not_lt, Nat.not_lt_zero, Nat.le_refl, not_true_eq_false, not_false_eq_true, false_imp_iff, true_imp_iff, forall_const, implies_true, Nat.reduceEqDiff, Nat.reduceLeDiff, Nat.reduceLT, f4, f10, ck, hs, show ¬ n ≤ s by omega, show ch s < 97 by omega, show ¬ ch s < 48 by omega, show ¬ 57 < ch s by omega] <;> first | omega | exact W'
        | false =>
          rw [hD] at tk tn tv
          simp only [Bool.false_eq_true, if_false] at tk tn tv
          have hD' := isD_f.mp hD
          have t11 : TmS h (yI g 35 11 (nI s)) := tg.I 11 _ (by decide) (by decide)
          have G' : WP 128 298 [some (.ref 35), some (.int (nI (ch s)))] [] (yI g 35 11 (nI s)) Q := by
            have F : ∀ kd, kd = tkd ch n i → Q none (yI (yI (yI (yI g 35 11 (nI s)) 35 11 (nI (s + 1))) 35 12 (nI (ch s))) 35 9 (nI kd)) := fun kd ek => k0 _ (((t11.I 11 _ (by decide) (by decide)).I 12 _ (by decide) (by decide)).I 9 _ (by decide) (by decide)) (by rw [ek]; simp [zI_yI, va_upA]) (by simp [zI_yI, va_upA, f10]) (by rw [tn]; simp [zI_yI, va_upA]) (fun _ => by rw [tv]; simp [zI_yI, va_upA]) (fun q => by rw [tk] at q; split at q <;> omega)
            have f10' : zI (yI g 35 11 (nI s)) 35 10 = nI s := by simp [zI_yI, va_upA, f10]
            cases hg : isG (ch s) with
            | true =>
              have F' := F 3 (by rw [tk, if_pos hg])
              rcases isG_t.mp hg with q | q | q | q | q | q <;> (rw [q] at F' ⊢; refine V128G  (t11.SK S) ?_ ?_ ?_ ?_ ?_ ?_ ?_ <;> simp (disch := omega) only [oi_l, oi_n, z_nI, nIA, nIM, nIS, nIlt, nIle, nIeq, nIC, vpI, Nat.add_sub_cancel, Nat.not_le, Nat.not_lt, Nat.not_lt_zero, Nat.le_refl, not_true_eq_false, not_false_eq_true, false_imp_iff, true_imp_iff, forall_const, implies_true, Nat.reduceEqDiff, Nat.reduceLeDiff, Nat.reduceLT, f10'] <;> first | omega | exact F')
            | false =>
              have F' := F 4 (by rw [tk, hg]; rfl)
              have hg' := isG_f.mp hg
              refine V128G  (t11.SK S) ?_ ?_ ?_ ?_ ?_ ?_ ?_ <;> simp (disch := omega) only [oi_l, oi_n, z_nI, nIA, nIM, nIS, nIlt, nIle, nIeq, nIC, vpI, Nat.add_sub_cancel, Nat.not_le, Nat.not_lt, Nat.not_lt_zero, Nat.le_refl, not_true_eq_false, not_false_eq_true, false_imp_iff, true_imp_iff, forall_const, implies_true, Nat.reduceEqDiff, Nat.reduceLeDiff, Nat.reduceLT, f10', show ¬ ch s = 40 by omega, show ¬ ch s = 41 by omega, show ¬ ch s = 59 by omega, show ¬ ch s = 44 by omega, show ¬ ch s = 43 by omega, show ¬ ch s = 58 by omega] <;> first | omega | exact F'
          by_cases a1 : ch s < 97
          · by_cases a2 : ch s < 48
            · refine V128b  S' ?_ ?_ ?_ ?_ ?_ ?_ ?_ ?_ ?_ ?_ <;> simp (disch := omega) only [oi_l, oi_n, z_nI, nIA, nIM, nIS, nIlt, nIle, nIeq, nIC, vpI, Nat.add_sub_cancel, Nat.not_le, Nat.not_lt, Nat.not_lt_zero, Nat.le_refl, not_true_eq_false, not_false_eq_true, false_imp_iff, true_imp_iff, forall_const, implies_true, Nat.reduceEqDiff, Nat.reduceLeDiff, Nat.reduceLT, f4, f10, ck, hs, show ¬ n ≤ s by omega, a1, a2] <;> first | omega | exact G'
            · refine V128b  S' ?_ ?_ ?_ ?_ ?_ ?_ ?_ ?_ ?_ ?_ <;> simp (disch := omega) only [oi_l, oi_n, z_nI, nIA, nIM, nIS, nIlt, nIle, nIeq, nIC, vpI, Nat.add_sub_cancel, Nat.not_le, Nat.not_lt, Nat.not_lt_zero, Nat.le_refl, not_true_eq_false, not_false_eq_true, false_imp_iff, true_imp_iff, forall_const, implies_true, Nat.reduceEqDiff, Nat.reduceLeDiff, Nat.reduceLT, f4, f10, ck, hs, show ¬ n ≤ s by omega, a1, a2, show 57 < ch s by omega] <;> first | omega | exact G'
          · refine V128b  S' ?_ ?_ ?_ ?_ ?_ ?_ ?_ ?_ ?_ ?_ <;> simp (disch := omega) only [oi_l, oi_n, z_nI, nIA, nIM, nIS, nIlt, nIle, nIeq, nIC, vpI, Nat.add_sub_cancel, Nat.not_le, Nat.not_lt, Nat.not_lt_zero, Nat.le_refl, not_true_eq_false, not_false_eq_true, false_imp_iff, true_imp_iff, forall_const, implies_true, Nat.reduceEqDiff, Nat.reduceLeDiff, Nat.reduceLT, f4, f10, ck, hs, show ¬ n ≤ s by omega, a1, show 122 < ch s by omega, show ¬ ch s < 48 by omega, show 57 < ch s by omega] <;> first | omega | exact G'
  have Sp : ∀ m j (g : pm_H) d1, j + m = n → TmS h g → zI g 35 10 = nI j → sc isS ch n j = s → WP 128 8 [some (.ref 35), d1] [] g Q := by
    intro m
    induction m with
    | zero =>
      intro j g d1 hj tg f10 ej
      obtain rfl : j = n := by omega
      rw [sc_n] at ej
      have f4 : zI g 35 4 = nI j := by rw [tg.2.1 4 (by omega)]; exact e4
      have B' := B g d1 tg (by rw [f10, ej])
      refine V128S  (tg.SK S) ?_ ?_ ?_ ?_ ?_ ?_ ?_ ?_ ?_ ?_ ?_ <;> simp (disch := omega) only [oi_l, oi_n, z_nI, nIA, nIM, nIS, nIlt, nIle, nIeq, nIC, vpI, Nat.add_sub_cancel, Nat.not_le, Nat.not_lt, Nat.not_lt_zero, Nat.le_refl, not_true_eq_false, not_false_eq_true, false_imp_iff, true_imp_iff, forall_const, implies_true, Nat.reduceEqDiff, Nat.reduceLeDiff, Nat.reduceLT, f4, f10] <;> first | omega | exact B'
    | succ m ih =>
      intro j g d1 hj tg f10 ej
      have f4 : zI g 35 4 = nI n := by rw [tg.2.1 4 (by omega)]; exact e4
      have hnj : ¬ n ≤ j := by omega
      obtain ⟨jk, jb⟩ := hch.lk (tg.1 36 (by decide)) (show j < n by omega)
      rw [sc_st (by omega)] at ej
      cases hz : isS (ch j) with
      | true =>
        rw [if_pos hz] at ej
        rw [isS_t] at hz
        have I' := ih (j + 1) (yI g 35 10 (nI (j + 1))) d1 (by omega) (tg.I 10 _ (by decide) (by decide)) (by simp [zI_yI, va_upA]) ej
        by_cases h10 : ch j = 10
        · refine V128S  (tg.SK S) ?_ ?_ ?_ ?_ ?_ ?_ ?_ ?_ ?_ ?_ ?_ <;> simp (disch := omega) only [oi_l, oi_n, z_nI, nIA, nIM, nIS, nIlt, nIle, nIeq, nIC, vpI, Nat.add_sub_cancel, Nat.not_le, Nat.not_lt, Nat.not_lt_zero, Nat.le_refl, not_true_eq_false, not_false_eq_true, false_imp_iff, true_imp_iff, forall_const, implies_true, Nat.reduceEqDiff, Nat.reduceLeDiff, Nat.reduceLT, f4, f10, jk, hnj, eq_true h10] <;> first | omega | exact I'
        · refine V128S  (tg.SK S) ?_ ?_ ?_ ?_ ?_ ?_ ?_ ?_ ?_ ?_ ?_ <;> simp (disch := omega) only [oi_l, oi_n, z_nI, nIA, nIM, nIS, nIlt, nIle, nIeq, nIC, vpI, Nat.add_sub_cancel, Nat.not_le, Nat.not_lt, Nat.not_lt_zero, Nat.le_refl, not_true_eq_false, not_false_eq_true, false_imp_iff, true_imp_iff, forall_const, implies_true, Nat.reduceEqDiff, Nat.reduceLeDiff, Nat.reduceLT, f4, f10, jk, hnj, h10, eq_true (show ch j = 32 by omega)] <;> first | omega | exact I'
      | false =>
        rw [if_neg (by rw [hz]; decide)] at ej
        rw [isS_f] at hz
        have B' := B g d1 tg (by rw [f10, ej])
        refine V128S  (tg.SK S) ?_ ?_ ?_ ?_ ?_ ?_ ?_ ?_ ?_ ?_ ?_ <;> simp (disch := omega) only [oi_l, oi_n, z_nI, nIA, nIM, nIS, nIlt, nIle, nIeq, nIC, vpI, Nat.add_sub_cancel, Nat.not_le, Nat.not_lt, Nat.not_lt_zero, Nat.le_refl, not_true_eq_false, not_false_eq_true, false_imp_iff, true_imp_iff, forall_const, implies_true, Nat.reduceEqDiff, Nat.reduceLeDiff, Nat.reduceLT, f4, f10, jk, hnj, show ¬ ch j = 10 by omega, show ¬ ch j = 32 by omega] <;> first | omega | exact B'
  refine V128 S ?_
  rw [e11]
  exact Sp (n - i) i _ none (by omega) (TmS.rf.I 10 _ (by decide) (by decide)) (by simp [zI_yI, va_upA]) es.symm
end NEXT

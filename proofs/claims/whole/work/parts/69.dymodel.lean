/-! BEST DYEING of the model -/
theorem V172 {h : pm_H} {Q : Option Value → pm_H → Prop} {d4 : Option Value} {d5 : Option Value} {d6 : Option Value} {n : Nat} {co : Nat} {mo : Nat} (S : SK h) (k1 : WP 172 3 [some (.ref 35), some (.int (nI n)), some (.int (nI co)), some (.int (nI mo)), some (.int (Int32.ofInt 0)), d5, d6] [] h Q) : WP 172 0 [some (.ref 35), some (.int (nI n)), some (.int (nI co)), some (.int (nI mo)), d4, d5, d6] [] h Q :=
  B172_0 (k1)
theorem V172I {h : pm_H} {Q : Option Value → pm_H → Prop} {d5 : Option Value} {d6 : Option Value} {n : Nat} {co : Nat} {mo : Nat} {l : Nat} (S : SK h) (g2 : ((zI h 35 39) ≤ (nI l)) → vp_in (Int32.ofInt 0) 12) (k3 : ((zI h 35 39) ≤ (nI l)) → WP 172 53 [some (.ref 35), some (.int (nI n)), some (.int (nI co)), some (.int (nI mo)), some (.int (Int32.ofInt 0)), some (.int (Int32.ofInt 0)), d6] [] (yI h 73 ((Int32.ofInt 0)).toNatClampNeg (Int32.ofInt (-1))) Q) (g4 : (¬ (zI h 35 39) ≤ (nI l)) → vp_in (nI l) 6) (g5 : (¬ (zI h 35 39) ≤ (nI l)) → vp_in (nI l) 6) (g6 : (¬ (zI h 35 39) ≤ (nI l)) → vp_in (nI l) 6) (k7 : (¬ (zI h 35 39) ≤ (nI l)) → WP 172 3 [some (.ref 35), some (.int (nI n)), some (.int (nI co)), some (.int (nI mo)), some (.int ((nI l) + (Int32.ofInt 1))), d5, d6] [] (yI (yI h 74 ((nI l)).toNatClampNeg (zI h 56 ((nI l)).toNatClampNeg)) 75 ((nI l)).toNatClampNeg (Int32.ofInt 0)) Q) : WP 172 3 [some (.ref 35), some (.int (nI n)), some (.int (nI co)), some (.int (nI mo)), some (.int (nI l)), d5, d6] [] h Q :=
  B172_3 (S.T 35) (fun c1 => B172_40 (S.T 35) (S.R 35 60) ⟨(S.T 73), (S.bd 73 (g2 c1))⟩ (k3 c1)) (fun c1 => B172_12 (S.T 35) (S.R 35 61) (S.R 35 41) ⟨(S.T 56), (S.bd 56 (g4 c1))⟩ ⟨(S.T 74), (S.bd 74 (g5 c1))⟩ (S.R 35 62) ⟨(S.T 75), (S.bd 75 (g6 c1))⟩ (k7 c1))
theorem V172H {h : pm_H} {Q : Option Value → pm_H → Prop} {kk : Int32} {d6 : Option Value} {n : Nat} {co : Nat} {mo : Nat} {lu : Nat} (S : SK h) (k3 : (kk < 0) → (¬ kk = (nI n)) → Q (some (.int (Int32.ofInt 0))) h) (k4 : (kk < 0) → (kk = (nI n)) → Q (some (.int (Int32.ofInt 1))) h) (k7 : (¬ kk < 0) → ((nI n) ≤ kk) → (¬ kk = (nI n)) → Q (some (.int (Int32.ofInt 0))) h) (k8 : (¬ kk < 0) → ((nI n) ≤ kk) → (kk = (nI n)) → Q (some (.int (Int32.ofInt 1))) h) (g9 : (¬ kk < 0) → (¬ (nI n) ≤ kk) → vp_in kk 12) (k11 : (¬ kk < 0) → (¬ (nI n) ≤ kk) → ((zI h 73 (kk).toNatClampNeg) < 0) → WP 172 129 [some (.ref 35), some (.int (nI n)), some (.int (nI co)), some (.int (nI mo)), some (.int (nI lu)), some (.int kk), some (.int ((zI h 73 (kk).toNatClampNeg) + (Int32.ofInt 1)))] [] h Q) (g12 : (¬ kk < 0) → (¬ (nI n) ≤ kk) → (¬ (zI h 73 (kk).toNatClampNeg) < 0) → vp_in (zI h 73 (kk).toNatClampNeg) 6) (g13 : (¬ kk < 0) → (¬ (nI n) ≤ kk) → (¬ (zI h 73 (kk).toNatClampNeg) < 0) → vp_in kk 12) (g14 : (¬ kk < 0) → (¬ (nI n) ≤ kk) → (¬ (zI h 73 (kk).toNatClampNeg) < 0) → vp_in (zI h 73 (kk).toNatClampNeg) 6) (k16 : (¬ kk < 0) → (¬ (nI n) ≤ kk) → (¬ (zI h 73 (kk).toNatClampNeg) < 0) → (¬ (zI (yI (yI h 74 ((zI h 73 (kk).toNatClampNeg)).toNatClampNeg ((zI h 74 ((zI h 73 (kk).toNatClampNeg)).toNatClampNeg) + (zI h 72 (kk).toNatClampNeg))) 75 ((zI h 73 (kk).toNatClampNeg)).toNatClampNeg ((zI h 75 ((zI h 73 (kk).toNatClampNeg)).toNatClampNeg) - (Int32.ofInt 1))) 75 ((zI h 73 (kk).toNatClampNeg)).toNatClampNeg) = 0) → WP 172 129 [some (.ref 35), some (.int (nI n)), some (.int (nI co)), some (.int (nI mo)), some (.int ((nI lu) - (Int32.ofInt 0))), some (.int kk), some (.int ((zI h 73 (kk).toNatClampNeg) + (Int32.ofInt 1)))] [] (yI (yI h 74 ((zI h 73 (kk).toNatClampNeg)).toNatClampNeg ((zI h 74 ((zI h 73 (kk).toNatClampNeg)).toNatClampNeg) + (zI h 72 (kk).toNatClampNeg))) 75 ((zI h 73 (kk).toNatClampNeg)).toNatClampNeg ((zI h 75 ((zI h 73 (kk).toNatClampNeg)).toNatClampNeg) - (Int32.ofInt 1))) Q) (k17 : (¬ kk < 0) → (¬ (nI n) ≤ kk) → (¬ (zI h 73 (kk).toNatClampNeg) < 0) → ((zI (yI (yI h 74 ((zI h 73 (kk).toNatClampNeg)).toNatClampNeg ((zI h 74 ((zI h 73 (kk).toNatClampNeg)).toNatClampNeg) + (zI h 72 (kk).toNatClampNeg))) 75 ((zI h 73 (kk).toNatClampNeg)).toNatClampNeg ((zI h 75 ((zI h 73 (kk).toNatClampNeg)).toNatClampNeg) - (Int32.ofInt 1))) 75 ((zI h 73 (kk).toNatClampNeg)).toNatClampNeg) = 0) → WP 172 129 [some (.ref 35), some (.int (nI n)), some (.int (nI co)), some (.int (nI mo)), some (.int ((nI lu) - (Int32.ofInt 1))), some (.int kk), some (.int ((zI h 73 (kk).toNatClampNeg) + (Int32.ofInt 1)))] [] (yI (yI h 74 ((zI h 73 (kk).toNatClampNeg)).toNatClampNeg ((zI h 74 ((zI h 73 (kk).toNatClampNeg)).toNatClampNeg) + (zI h 72 (kk).toNatClampNeg))) 75 ((zI h 73 (kk).toNatClampNeg)).toNatClampNeg ((zI h 75 ((zI h 73 (kk).toNatClampNeg)).toNatClampNeg) - (Int32.ofInt 1))) Q) : WP 172 53 [some (.ref 35), some (.int (nI n)), some (.int (nI co)), some (.int (nI mo)), some (.int (nI lu)), some (.int kk), d6] [] h Q :=
  B172_53 (fun c1 => B172_280 (fun c2 => B172_290 (B172_291 oi0 (k3 c1 c2))) (fun c2 => B172_286 (B172_291 oi1 (k4 c1 c2)))) (fun c1 => B172_58 (fun c5 => B172_280 (fun c6 => B172_290 (B172_291 oi0 (k7 c1 c5 c6))) (fun c6 => B172_286 (B172_291 oi1 (k8 c1 c5 c6)))) (fun c5 => B172_64 (S.T 35) (S.R 35 60) ⟨(S.T 73), (S.bd 73 (g9 c1 c5))⟩ (fun c10 => B172_126 (k11 c1 c5 c10)) (fun c10 => B172_78 (S.T 35) (S.R 35 61) ⟨(S.T 74), (S.bd 74 (g12 c1 c5 c10))⟩ (S.R 35 59) ⟨(S.T 72), (S.bd 72 (g13 c1 c5 c10))⟩ (S.R 35 62) ⟨(S.T 75), (S.bd 75 (g14 c1 c5 c10))⟩ (fun c15 => B172_122 (B172_123 (B172_126 (k16 c1 c5 c10 c15)))) (fun c15 => B172_118 (B172_123 (B172_126 (k17 c1 c5 c10 c15)))))))
theorem V172W {h : pm_H} {Q : Option Value → pm_H → Prop} {n : Nat} {co : Nat} {mo : Nat} {lu : Nat} {k : Nat} {l : Nat} (S : SK h) (k2 : ((zI h 35 39) ≤ (nI l)) → WP 172 188 [some (.ref 35), some (.int (nI n)), some (.int (nI co)), some (.int (nI mo)), some (.int (nI lu)), some (.int (nI k)), some (.int (nI l))] [] h Q) (g3 : (¬ (zI h 35 39) ≤ (nI l)) → vp_in (nI l) 6) (k5 : (¬ (zI h 35 39) ≤ (nI l)) → (¬ (zI h 55 ((nI l)).toNatClampNeg) = (nI co)) → WP 172 129 [some (.ref 35), some (.int (nI n)), some (.int (nI co)), some (.int (nI mo)), some (.int (nI lu)), some (.int (nI k)), some (.int ((nI l) + (Int32.ofInt 1)))] [] h Q) (g6 : (¬ (zI h 35 39) ≤ (nI l)) → ((zI h 55 ((nI l)).toNatClampNeg) = (nI co)) → vp_in (nI l) 6) (g7 : (¬ (zI h 35 39) ≤ (nI l)) → ((zI h 55 ((nI l)).toNatClampNeg) = (nI co)) → vp_in (nI k) 12) (k9 : (¬ (zI h 35 39) ≤ (nI l)) → ((zI h 55 ((nI l)).toNatClampNeg) = (nI co)) → ((zI h 74 ((nI l)).toNatClampNeg) < (zI h 72 ((nI k)).toNatClampNeg)) → WP 172 129 [some (.ref 35), some (.int (nI n)), some (.int (nI co)), some (.int (nI mo)), some (.int (nI lu)), some (.int (nI k)), some (.int ((nI l) + (Int32.ofInt 1)))] [] h Q) (g10 : (¬ (zI h 35 39) ≤ (nI l)) → ((zI h 55 ((nI l)).toNatClampNeg) = (nI co)) → (¬ (zI h 74 ((nI l)).toNatClampNeg) < (zI h 72 ((nI k)).toNatClampNeg)) → vp_in (nI l) 6) (k12 : (¬ (zI h 35 39) ≤ (nI l)) → ((zI h 55 ((nI l)).toNatClampNeg) = (nI co)) → (¬ (zI h 74 ((nI l)).toNatClampNeg) < (zI h 72 ((nI k)).toNatClampNeg)) → (¬ (zI h 75 ((nI l)).toNatClampNeg) = 0) → WP 172 188 [some (.ref 35), some (.int (nI n)), some (.int (nI co)), some (.int (nI mo)), some (.int (nI lu)), some (.int (nI k)), some (.int (nI l))] [] h Q) (k14 : (¬ (zI h 35 39) ≤ (nI l)) → ((zI h 55 ((nI l)).toNatClampNeg) = (nI co)) → (¬ (zI h 74 ((nI l)).toNatClampNeg) < (zI h 72 ((nI k)).toNatClampNeg)) → ((zI h 75 ((nI l)).toNatClampNeg) = 0) → (¬ (nI lu) = (nI mo)) → WP 172 188 [some (.ref 35), some (.int (nI n)), some (.int (nI co)), some (.int (nI mo)), some (.int (nI lu)), some (.int (nI k)), some (.int (nI l))] [] h Q) (k15 : (¬ (zI h 35 39) ≤ (nI l)) → ((zI h 55 ((nI l)).toNatClampNeg) = (nI co)) → (¬ (zI h 74 ((nI l)).toNatClampNeg) < (zI h 72 ((nI k)).toNatClampNeg)) → ((zI h 75 ((nI l)).toNatClampNeg) = 0) → ((nI lu) = (nI mo)) → WP 172 129 [some (.ref 35), some (.int (nI n)), some (.int (nI co)), some (.int (nI mo)), some (.int (nI lu)), some (.int (nI k)), some (.int ((nI l) + (Int32.ofInt 1)))] [] h Q) : WP 172 129 [some (.ref 35), some (.int (nI n)), some (.int (nI co)), some (.int (nI mo)), some (.int (nI lu)), some (.int (nI k)), some (.int (nI l))] [] h Q :=
  B172_129 (S.T 35) (fun c1 => k2 c1) (fun c1 => B172_138 (S.T 35) (S.R 35 40) ⟨(S.T 55), (S.bd 55 (g3 c1))⟩ (fun c4 => B172_182 (k5 c1 c4)) (fun c4 => B172_149 (S.T 35) (S.R 35 61) ⟨(S.T 74), (S.bd 74 (g6 c1 c4))⟩ (S.R 35 59) ⟨(S.T 72), (S.bd 72 (g7 c1 c4))⟩ (fun c8 => B172_182 (k9 c1 c4 c8)) (fun c8 => B172_166 (S.T 35) (S.R 35 62) ⟨(S.T 75), (S.bd 75 (g10 c1 c4 c8))⟩ (fun c11 => k12 c1 c4 c8 c11) (fun c11 => B172_176 (fun c13 => k14 c1 c4 c8 c11 c13) (fun c13 => B172_182 (k15 c1 c4 c8 c11 c13))))))
theorem V172C {h : pm_H} {Q : Option Value → pm_H → Prop} {n : Nat} {co : Nat} {mo : Nat} {lu : Nat} {k : Nat} {l : Nat} (S : SK h) (g2 : (¬ (nI l) = (zI h 35 39)) → vp_in (nI k) 12) (g3 : (¬ (nI l) = (zI h 35 39)) → vp_in (nI l) 6) (g4 : (¬ (nI l) = (zI h 35 39)) → vp_in (nI k) 12) (g5 : (¬ (nI l) = (zI h 35 39)) → vp_in (nI l) 6) (g7 : (¬ (nI l) = (zI h 35 39)) → (¬ (zI h 75 ((nI l)).toNatClampNeg) = 0) → vp_in (nI l) 6) (k9 : (¬ (nI l) = (zI h 35 39)) → (¬ (zI h 75 ((nI l)).toNatClampNeg) = 0) → ((nI n) ≤ ((nI k) + (Int32.ofInt 1))) → WP 172 53 [some (.ref 35), some (.int (nI n)), some (.int (nI co)), some (.int (nI mo)), some (.int ((nI lu) + (Int32.ofInt 0))), some (.int ((nI k) + (Int32.ofInt 1))), some (.int (nI l))] [] (yI (yI (yI h 73 ((nI k)).toNatClampNeg (nI l)) 74 ((nI l)).toNatClampNeg ((zI h 74 ((nI l)).toNatClampNeg) - (zI h 72 ((nI k)).toNatClampNeg))) 75 ((nI l)).toNatClampNeg ((zI h 75 ((nI l)).toNatClampNeg) + (Int32.ofInt 1))) Q) (g10 : (¬ (nI l) = (zI h 35 39)) → (¬ (zI h 75 ((nI l)).toNatClampNeg) = 0) → (¬ (nI n) ≤ ((nI k) + (Int32.ofInt 1))) → vp_in ((nI k) + (Int32.ofInt 1)) 12) (k11 : (¬ (nI l) = (zI h 35 39)) → (¬ (zI h 75 ((nI l)).toNatClampNeg) = 0) → (¬ (nI n) ≤ ((nI k) + (Int32.ofInt 1))) → WP 172 53 [some (.ref 35), some (.int (nI n)), some (.int (nI co)), some (.int (nI mo)), some (.int ((nI lu) + (Int32.ofInt 0))), some (.int ((nI k) + (Int32.ofInt 1))), some (.int (nI l))] [] (yI (yI (yI (yI h 73 ((nI k)).toNatClampNeg (nI l)) 74 ((nI l)).toNatClampNeg ((zI h 74 ((nI l)).toNatClampNeg) - (zI h 72 ((nI k)).toNatClampNeg))) 75 ((nI l)).toNatClampNeg ((zI h 75 ((nI l)).toNatClampNeg) + (Int32.ofInt 1))) 73 (((nI k) + (Int32.ofInt 1))).toNatClampNeg (Int32.ofInt (-1))) Q) (g12 : (¬ (nI l) = (zI h 35 39)) → ((zI h 75 ((nI l)).toNatClampNeg) = 0) → vp_in (nI l) 6) (k14 : (¬ (nI l) = (zI h 35 39)) → ((zI h 75 ((nI l)).toNatClampNeg) = 0) → ((nI n) ≤ ((nI k) + (Int32.ofInt 1))) → WP 172 53 [some (.ref 35), some (.int (nI n)), some (.int (nI co)), some (.int (nI mo)), some (.int ((nI lu) + (Int32.ofInt 1))), some (.int ((nI k) + (Int32.ofInt 1))), some (.int (nI l))] [] (yI (yI (yI h 73 ((nI k)).toNatClampNeg (nI l)) 74 ((nI l)).toNatClampNeg ((zI h 74 ((nI l)).toNatClampNeg) - (zI h 72 ((nI k)).toNatClampNeg))) 75 ((nI l)).toNatClampNeg ((zI h 75 ((nI l)).toNatClampNeg) + (Int32.ofInt 1))) Q) (g15 : (¬ (nI l) = (zI h 35 39)) → ((zI h 75 ((nI l)).toNatClampNeg) = 0) → (¬ (nI n) ≤ ((nI k) + (Int32.ofInt 1))) → vp_in ((nI k) + (Int32.ofInt 1)) 12) (k16 : (¬ (nI l) = (zI h 35 39)) → ((zI h 75 ((nI l)).toNatClampNeg) = 0) → (¬ (nI n) ≤ ((nI k) + (Int32.ofInt 1))) → WP 172 53 [some (.ref 35), some (.int (nI n)), some (.int (nI co)), some (.int (nI mo)), some (.int ((nI lu) + (Int32.ofInt 1))), some (.int ((nI k) + (Int32.ofInt 1))), some (.int (nI l))] [] (yI (yI (yI (yI h 73 ((nI k)).toNatClampNeg (nI l)) 74 ((nI l)).toNatClampNeg ((zI h 74 ((nI l)).toNatClampNeg) - (zI h 72 ((nI k)).toNatClampNeg))) 75 ((nI l)).toNatClampNeg ((zI h 75 ((nI l)).toNatClampNeg) + (Int32.ofInt 1))) 73 (((nI k) + (Int32.ofInt 1))).toNatClampNeg (Int32.ofInt (-1))) Q) (k17 : ((nI l) = (zI h 35 39)) → WP 172 53 [some (.ref 35), some (.int (nI n)), some (.int (nI co)), some (.int (nI mo)), some (.int (nI lu)), some (.int ((nI k) + (Int32.ofInt (-1)))), some (.int (nI l))] [] h Q) : WP 172 188 [some (.ref 35), some (.int (nI n)), some (.int (nI co)), some (.int (nI mo)), some (.int (nI lu)), some (.int (nI k)), some (.int (nI l))] [] h Q :=
  B172_188 (S.T 35) (fun c1 => B172_203 (S.T 35) (S.R 35 60) ⟨(S.T 73), (S.bd 73 (g2 c1))⟩ (S.R 35 61) ⟨(S.T 74), (S.bd 74 (g3 c1))⟩ (S.R 35 59) ⟨(S.T 72), (S.bd 72 (g4 c1))⟩ (S.R 35 62) ⟨(S.T 75), (S.bd 75 (g5 c1))⟩ (fun c6 => B172_245 (B172_246 (S.T 35) (S.R 35 62) ⟨(S.T 75), (S.bd 75 (g7 c1 c6))⟩ (fun c8 => B172_277 (k9 c1 c6 c8)) (fun c8 => B172_269 (S.T 35) (S.R 35 60) ⟨(S.T 73), (S.bd 73 (g10 c1 c6 c8))⟩ (B172_277 (k11 c1 c6 c8))))) (fun c6 => B172_241 (B172_246 (S.T 35) (S.R 35 62) ⟨(S.T 75), (S.bd 75 (g12 c1 c6))⟩ (fun c13 => B172_277 (k14 c1 c6 c13)) (fun c13 => B172_269 (S.T 35) (S.R 35 60) ⟨(S.T 73), (S.bd 73 (g15 c1 c6 c13))⟩ (B172_277 (k16 c1 c6 c13)))))) (fun c1 => B172_197 (k17 c1))
theorem fq_S {f : Nat → Nat} {k : Nat} (hk : k < 8) : su (fq (k + 1)) f 8 = su (fq k) f 8 + f k := by
  rw [← su_one (f := f) hk]
  refine su_sp (fun i hi => ?_)
  rw [fq_e, fq_e]
  by_cases h1 : i < k
  · rw [decide_eq_true h1, decide_eq_true (show i < k + 1 by omega), decide_eq_false (show ¬ i = k by omega)]; exact ⟨rfl, rfl⟩
  · by_cases h2 : i = k
    · rw [decide_eq_false h1, decide_eq_true (show i < k + 1 by omega), decide_eq_true h2]; exact ⟨rfl, rfl⟩
    · rw [decide_eq_false h1, decide_eq_false (show ¬ i < k + 1 by omega), decide_eq_false h2]; exact ⟨rfl, rfl⟩
theorem fq_0 {f : Nat → Nat} : su (fq 0) f 8 = 0 := su_0 (fun p hp hq => by rw [fq_e] at hq; simp at hq)
theorem fq_mono {f : Nat → Nat} {k m : Nat} (h : k ≤ m) : su (fq k) f 8 ≤ su (fq m) f 8 := su_mono (fun p hp => ⟨fun hq => by rw [fq_e] at hq ⊢; simp only [decide_eq_true_eq] at hq ⊢; omega, Nat.le_refl _⟩)
theorem uS_b (a : Nat → Nat) (q : Nat → Bool) (l : Nat) : uS a q l ≤ 8 := by
  have h : uS a q l ≤ su (fun _ => true) (fun _ => 1) 8 := su_mono (fun p _ => ⟨fun _ => rfl, by split <;> decide⟩)
  have e : su (fun _ => true) (fun _ => 1) 8 = 8 := by decide
  omega
theorem nz_up {f g : Nat → Nat} {l : Nat} : ∀ {j : Nat}, l < j → (∀ i, i < j → i ≠ l → f i = g i) → g l = 0 → 0 < f l → nz f j = nz g j + 1
  | 0, h, _, _, _ => absurd h (Nat.not_lt_zero _)
  | j + 1, h, h1, h2, h3 => by
    rw [nz, nz]
    by_cases e : l = j
    · subst e
      rw [nz_cg (fun i hi => h1 i (by omega) (by omega)), if_pos h3, if_neg (by omega)]
    · rw [nz_up (show l < j by omega) (fun i hi => h1 i (by omega)) h2 h3, h1 j (by omega) (by omega)]
      omega
theorem nz_eq {f g : Nat → Nat} : ∀ {j : Nat}, (∀ i, i < j → (0 < f i ↔ 0 < g i)) → nz f j = nz g j
  | 0, _ => rfl
  | j + 1, h => by
    rw [nz, nz, nz_eq (fun i hi => h i (by omega))]
    have := h j (by omega)
    split <;> split <;> omega
section DYM
variable {h : pm_H} {Q : Option Value → pm_H → Prop} {nd ly lcol : Nat → Nat} {n co L mo : Nat}
def Sol (nd ly lcol : Nat → Nat) (co n L mo : Nat) (b : Nat → Nat) : Prop := vld nd ly (fun j => decide (lcol j = co)) b (fq n) L ∧ nz (uS b (fq n)) L ≤ mo
def FE (nd ly lcol : Nat → Nat) (co L mo k : Nat) (a : Nat → Nat) : Prop := (∀ p, p < k → a p < L ∧ lcol (a p) = co) ∧ (∀ l, l < L → lS nd a (fq k) l ≤ ly l) ∧ nz (uS a (fq k)) L ≤ mo
def StD (nd ly : Nat → Nat) (L k : Nat) (a : Nat → Nat) (g : pm_H) : Prop := (∀ p, p < k → zI g 73 p = nI (a p)) ∧ ∀ l, l < L → zI g 74 l = nI (ly l - lS nd a (fq k) l) ∧ zI g 75 l = nI (uS a (fq k) l)
theorem lS_S {a : Nat → Nat} {k l : Nat} (hk : k < 8) : lS nd a (fq (k + 1)) l = lS nd a (fq k) l + if a k = l then nd k else 0 := fq_S hk
theorem uS_S {a : Nat → Nat} {k l : Nat} (hk : k < 8) : uS a (fq (k + 1)) l = uS a (fq k) l + if a k = l then 1 else 0 := fq_S hk
theorem agr {a b : Nat → Nat} {k : Nat} (h : ∀ p, p < k → b p = a p) : ∀ p, p < 8 → fq k p = true → b p = a p := fun p _ hq => by
  rw [fq_e] at hq
  exact h p (by simpa using hq)
theorem c172 (S : SK h) (hn1 : 1 ≤ n) (hn : n ≤ 8) (hco : co < 8) (hL : L ≤ 6) (hmo : mo ≤ 6) (hly : ∀ j, j < L → ly j ≤ 1000000) (hcl : ∀ j, j < L → lcol j < 8) (hnd : ∀ p, p < n → nd p ≤ 300000) (eL : zI h 35 39 = nI L) (e55 : ∀ j, j < L → zI h 55 j = nI (lcol j) ∧ zI h 56 j = nI (ly j)) (e72 : ∀ p, p < n → zI h 72 p = nI (nd p))
    (kf : (∀ b, ¬ Sol nd ly lcol co n L mo b) → ∀ g, Same [73, 74, 75] h g → Q (some (.int (Int32.ofInt 0))) g)
    (kt : ∀ a, Sol nd ly lcol co n L mo a → (∀ b, Sol nd ly lcol co n L mo b → ∀ j, j < n → (∀ p, p < j → b p = a p) → ¬ b j < a j) → ∀ g, Same [73, 74, 75] h g → (∀ p, p < n → zI g 73 p = nI (a p)) → Q (some (.int (Int32.ofInt 1))) g) :
    WP 172 0 [some (.ref 35), some (.int (nI n)), some (.int (nI co)), some (.int (nI mo)), none, none, none] [] h Q := by
  have X : ∀ r k, k + r = n → ∀ (a : Nat → Nat) (g : pm_H) d6, Same [73, 74, 75] h g → FE nd ly lcol co L mo k a → StD nd ly L k a g → (k < n → zI g 73 k = Int32.ofInt (-1)) → (∀ b, Sol nd ly lcol co n L mo b → ∀ j, j < k → (∀ p, p < j → b p = a p) → ¬ b j < a j) →
      (∀ (g' : pm_H) d6, Same [73, 74, 75] h g' → StD nd ly L k a g' → (∀ b, Sol nd ly lcol co n L mo b → ¬ ∀ p, p < k → b p = a p) → WP 172 53 [some (.ref 35), some (.int (nI n)), some (.int (nI co)), some (.int (nI mo)), some (.int (nI (nz (uS a (fq k)) L))), some (.int (Int32.ofInt ((k : Int) - 1))), d6] [] g' Q) →
      WP 172 53 [some (.ref 35), some (.int (nI n)), some (.int (nI co)), some (.int (nI mo)), some (.int (nI (nz (uS a (fq k)) L))), some (.int (nI k)), d6] [] g Q := by
    intro r
    induction r with
    | zero =>
      intro k hk a g d6 sg fe st ch nb fail
      obtain rfl : k = n := by omega
      have k' := kt a ⟨⟨fun p hp hq => by
        rw [fq_e] at hq
        have := fe.1 p (by simpa using hq)
        exact ⟨this.1, decide_eq_true this.2⟩, fe.2.1⟩, fe.2.2⟩ nb g sg st.1
      refine V172H  (sg.SK S) ?_ ?_ ?_ ?_ ?_ ?_ ?_ ?_ ?_ ?_ ?_ <;> simp (disch := omega) only [oi_l, oi_n, z_nI, nIA, nIM, nIS, nIlt, nIle, nIeq, nIC, vpI, Nat.add_sub_cancel, Nat.not_le, Nat.not_lt, Nat.not_lt_zero, Nat.le_refl, not_true_eq_false, not_false_eq_true, false_imp_iff, true_imp_iff, forall_const, implies_true, Nat.reduceEqDiff, Nat.reduceLeDiff, Nat.reduceLT] <;> first | omega | exact k'
    | succ r ih =>
      intro k hk a g d6 sg fe st ch nb fail
      have k8 : k < 8 := by omega
      have nk := hnd k (by omega)
      -- the loop over lots
      have W : ∀ m l (g : pm_H), l + m = L → Same [73, 74, 75] h g → StD nd ly L k a g → (∀ b, Sol nd ly lcol co n L mo b → (∀ p, p < k → b p = a p) → l ≤ b k) → WP 172 129 [some (.ref 35), some (.int (nI n)), some (.int (nI co)), some (.int (nI mo)), some (.int (nI (nz (uS a (fq k)) L))), some (.int (nI k)), some (.int (nI l))] [] g Q := by
        intro m
        induction m with
        | zero =>
          intro l g hl sg st ex
          obtain rfl : l = L := by omega
          have S' := sg.SK S
          have eL' : zI g 35 39 = nI l := by rw [sg.1 35 (by decide)]; exact eL
          have f' := fail g (some (.int (nI l))) sg st (fun b sb ag => by
            have h1 := ex b sb ag
            have h2 := (sb.1.1 k k8 (by rw [fq_e]; exact decide_eq_true (by omega))).1
            omega)
          rw [← nI_p] at f'
          have C' : WP 172 188 [some (.ref 35), some (.int (nI n)), some (.int (nI co)), some (.int (nI mo)), some (.int (nI (nz (uS a (fq k)) l))), some (.int (nI k)), some (.int (nI l))] [] g Q := by
            refine V172C  S' ?_ ?_ ?_ ?_ ?_ ?_ ?_ ?_ ?_ ?_ ?_ ?_ ?_ <;> simp (disch := omega) only [oi_l, oi_n, z_nI, nIA, nIM, nIS, nIlt, nIle, nIeq, nIC, vpI, Nat.add_sub_cancel, Nat.not_le, Nat.not_lt, Nat.not_lt_zero, Nat.le_refl, not_true_eq_false, not_false_eq_true, false_imp_iff, true_imp_iff, forall_const, implies_true, Nat.reduceEqDiff, Nat.reduceLeDiff, Nat.reduceLT, eL'] <;> first | omega | exact f'
          refine V172W  S' ?_ ?_ ?_ ?_ ?_ ?_ ?_ ?_ ?_ ?_ <;> simp (disch := omega) only [oi_l, oi_n, z_nI, nIA, nIM, nIS, nIlt, nIle, nIeq, nIC, vpI, Nat.add_sub_cancel, Nat.not_le, Nat.not_lt, Nat.not_lt_zero, Nat.le_refl, not_true_eq_false, not_false_eq_true, false_imp_iff, true_imp_iff, forall_const, implies_true, Nat.reduceEqDiff, Nat.reduceLeDiff, Nat.reduceLT, eL'] <;> first | omega | exact C'
        | succ m ihw =>
          intro l g hl sg st ex
          have S' := sg.SK S
          have eL' : zI g 35 39 = nI L := by rw [sg.1 35 (by decide)]; exact eL
          obtain ⟨c1, -⟩ := e55 l (by omega)
          have c1' : zI g 55 l = nI (lcol l) := by rw [sg.1 55 (by decide)]; exact c1
          have cb := hcl l (by omega)
          obtain ⟨t1, t2⟩ := st.2 l (by omega)
          have n72 : zI g 72 k = nI (nd k) := by rw [sg.1 72 (by decide)]; exact e72 k (by omega)
          have lb := hly l (by omega)
          have fl := fe.2.1 l (by omega)
          have ub := uS_b a (fq k) l
          have zb := nz_le (uS a (fq k)) L
          have nL : ¬ L ≤ l := by omega
          have skip : (∀ b, Sol nd ly lcol co n L mo b → (∀ p, p < k → b p = a p) → ¬ b k = l) → WP 172 129 [some (.ref 35), some (.int (nI n)), some (.int (nI co)), some (.int (nI mo)), some (.int (nI (nz (uS a (fq k)) L))), some (.int (nI k)), some (.int (nI (l + 1)))] [] g Q := fun no => ihw (l + 1) g (by omega) sg st (fun b sb ag => by
            have := ex b sb ag
            have := no b sb ag
            omega)
          by_cases cc : lcol l = co
          · by_cases lt : ly l - lS nd a (fq k) l < nd k
            · have I' := skip (fun b sb ag e => by
                have h1 : lS nd b (fq (k + 1)) l = lS nd a (fq k) l + nd k := by rw [lS_S k8, if_pos e, lS_cg (agr ag)]
                have h2 : lS nd b (fq (k + 1)) l ≤ lS nd b (fq n) l := fq_mono (by omega)
                have h3 := sb.1.2 l (by omega)
                omega)
              refine V172W  S' ?_ ?_ ?_ ?_ ?_ ?_ ?_ ?_ ?_ ?_ <;> simp (disch := omega) only [oi_l, oi_n, z_nI, nIA, nIM, nIS, nIlt, nIle, nIeq, nIC, vpI, Nat.add_sub_cancel, Nat.not_le, Nat.not_lt, Nat.not_lt_zero, Nat.le_refl, not_true_eq_false, not_false_eq_true, false_imp_iff, true_imp_iff, forall_const, implies_true, Nat.reduceEqDiff, Nat.reduceLeDiff, Nat.reduceLT, eL', c1', t1, t2, n72, nL, eq_true cc, lt] <;> first | omega | exact I'
            · by_cases full : uS a (fq k) l = 0 ∧ nz (uS a (fq k)) L = mo
              · have I' := skip (fun b sb ag e => by
                  have h1 : nz (uS b (fq (k + 1))) L = nz (uS a (fq k)) L + 1 := nz_up (l := l) (by omega) (fun i hi ne => by rw [uS_S k8, if_neg (by omega), uS_cg (agr ag)]; rfl) full.1 (by rw [uS_S k8, if_pos e]; omega)
                  have h2 : nz (uS b (fq (k + 1))) L ≤ nz (uS b (fq n)) L := nz_mono (fun i hi => fq_mono (by omega))
                  have h3 := sb.2
                  omega)
                refine V172W  S' ?_ ?_ ?_ ?_ ?_ ?_ ?_ ?_ ?_ ?_ <;> simp (disch := omega) only [oi_l, oi_n, z_nI, nIA, nIM, nIS, nIlt, nIle, nIeq, nIC, vpI, Nat.add_sub_cancel, Nat.not_le, Nat.not_lt, Nat.not_lt_zero, Nat.le_refl, not_true_eq_false, not_false_eq_true, false_imp_iff, true_imp_iff, forall_const, implies_true, Nat.reduceEqDiff, Nat.reduceLeDiff, Nat.reduceLT, eL', c1', t1, t2, n72, nL, eq_true cc, lt, eq_true full.1, eq_true full.2] <;> first | omega | exact I'
              · -- the lot is taken
                obtain ⟨a', ea⟩ : ∃ a' : Nat → Nat, a' = fun p => if p = k then l else a p := ⟨_, rfl⟩
                have ak : a' k = l := by rw [ea]; exact if_pos rfl
                have ap : ∀ p, p < k → a' p = a p := fun p hp => by rw [ea]; exact if_neg (by omega)
                have sl : ∀ i, lS nd a' (fq (k + 1)) i = lS nd a (fq k) i + if i = l then nd k else 0 := fun i => by
                  rw [lS_S k8, ak, lS_cg (agr ap)]
                  by_cases e : i = l
                  · rw [if_pos e, if_pos e.symm]
                  · rw [if_neg e, if_neg (fun q => e q.symm)]
                have su' : ∀ i, uS a' (fq (k + 1)) i = uS a (fq k) i + if i = l then 1 else 0 := fun i => by
                  rw [uS_S k8, ak, uS_cg (agr ap)]
                  by_cases e : i = l
                  · rw [if_pos e, if_pos e.symm]
                  · rw [if_neg e, if_neg (fun q => e q.symm)]
                have nzn : nz (uS a' (fq (k + 1))) L = nz (uS a (fq k)) L + if uS a (fq k) l = 0 then 1 else 0 := by
                  by_cases z : uS a (fq k) l = 0
                  · rw [if_pos z]
                    exact nz_up (l := l) (by omega) (fun i hi ne => by rw [su', if_neg ne]; rfl) z (by rw [su', if_pos rfl]; omega)
                  · rw [if_neg z]
                    exact nz_eq (fun i hi => by
                      rw [su']
                      by_cases e : i = l
                      · rw [if_pos e, e]; omega
                      · rw [if_neg e]; exact Iff.rfl)
                have fe' : FE nd ly lcol co L mo (k + 1) a' := ⟨fun p hp => by
                    by_cases e : p = k
                    · rw [e, ak]; exact ⟨by omega, cc⟩
                    · rw [ap p (by omega)]; exact fe.1 p (by omega), fun i hi => by
                    rw [sl]
                    have := fe.2.1 i hi
                    by_cases e : i = l
                    · rw [if_pos e, e]; omega
                    · rw [if_neg e]; exact this, by
                    rw [nzn]
                    have := fe.2.2
                    split <;> omega⟩
                have nb' : ∀ b, Sol nd ly lcol co n L mo b → ∀ j, j < k + 1 → (∀ p, p < j → b p = a' p) → ¬ b j < a' j := fun b sb j hj ag => by
                  by_cases e : j = k
                  · subst e
                    rw [ak]
                    have := ex b sb (fun p hp => by rw [ag p hp, ap p hp])
                    omega
                  · rw [ap j (by omega)]
                    exact nb b sb j (by omega) (fun p hp => by rw [ag p hp, ap p (by omega)])
                have zb' := nz_le (uS a' (fq (k + 1))) L
                -- coming back to this place
                have back : ∀ (g' : pm_H) d6, Same [73, 74, 75] h g' → StD nd ly L (k + 1) a' g' → (∀ b, Sol nd ly lcol co n L mo b → ¬ ∀ p, p < k + 1 → b p = a' p) → WP 172 53 [some (.ref 35), some (.int (nI n)), some (.int (nI co)), some (.int (nI mo)), some (.int (nI (nz (uS a' (fq (k + 1))) L))), some (.int (Int32.ofInt (((k + 1 : Nat) : Int) - 1))), d6] [] g' Q := by
                  intro g' d6 sg' st' no
                  rw [zI_q]
                  have S'' := sg'.SK S
                  have c73 := st'.1 k (by omega)
                  rw [ak] at c73
                  obtain ⟨b1, b2⟩ := st'.2 l (by omega)
                  rw [sl, if_pos rfl] at b1
                  rw [su', if_pos rfl] at b2
                  have m72 : zI g' 72 k = nI (nd k) := by rw [sg'.1 72 (by decide)]; exact e72 k (by omega)
                  have fin : ∀ x y, x = nI (ly l - lS nd a (fq k) l) → y = nI (uS a (fq k) l) → WP 172 129 [some (.ref 35), some (.int (nI n)), some (.int (nI co)), some (.int (nI mo)), some (.int (nI (nz (uS a (fq k)) L))), some (.int (nI k)), some (.int (nI (l + 1)))] [] (yI (yI g' 74 l x) 75 l y) Q := by
                    intro x y ex' ey
                    refine ihw (l + 1) _ (by omega) ((sg'.I 74 _ _ (by decide)).I 75 _ _ (by decide)) ⟨fun p hp => ?_, fun i hi => ?_⟩ (fun b sb ag => ?_)
                    · simp only [zI_yI, Nat.reduceEqDiff, if_false]
                      rw [st'.1 p (by omega), ap p hp]
                    · simp only [zI_yI, va_upA, Nat.reduceEqDiff, if_false, if_true]
                      obtain ⟨i1, i2⟩ := st'.2 i hi
                      by_cases e : i = l
                      · rw [if_pos e, if_pos e, e]; exact ⟨ex', ey⟩
                      · rw [if_neg e, if_neg e, i1, i2, sl, su', if_neg e, if_neg e]; exact ⟨rfl, rfl⟩
                    · have h1 := ex b sb ag
                      by_cases e : b k = l
                      · exact absurd (fun p hp => by
                          by_cases e' : p = k
                          · rw [e', e, ak]
                          · rw [ag p (by omega), ap p (by omega)]) (no b sb)
                      · omega
                  have e74 : ly l - (lS nd a (fq k) l + nd k) + nd k = ly l - lS nd a (fq k) l := by omega
                  by_cases z : uS a (fq k) l = 0
                  · have F' := fin (nI (ly l - lS nd a (fq k) l)) (nI 0) rfl (by rw [z])
                    rw [nzn, if_pos z]
                    refine V172H  S'' ?_ ?_ ?_ ?_ ?_ ?_ ?_ ?_ ?_ ?_ ?_ <;> simp (disch := omega) only [oi_l, oi_n, z_nI, nIA, nIM, nIS, nIlt, nIle, nIeq, nIC, vpI, Nat.add_sub_cancel, Nat.not_le, Nat.not_lt, Nat.not_lt_zero, Nat.le_refl, not_true_eq_false, not_false_eq_true, false_imp_iff, true_imp_iff, forall_const, implies_true, Nat.reduceEqDiff, Nat.reduceLeDiff, Nat.reduceLT, zI_yI, va_upA, Nat.reduceEqDiff, ↓reduceIte, c73, b1, b2, m72, e74, z, show ¬ n ≤ k by omega] <;> first | omega | exact F'
                  · have F' := fin (nI (ly l - lS nd a (fq k) l)) (nI (uS a (fq k) l)) rfl rfl
                    rw [nzn, if_neg z]
                    refine V172H  S'' ?_ ?_ ?_ ?_ ?_ ?_ ?_ ?_ ?_ ?_ ?_ <;> simp (disch := omega) only [oi_l, oi_n, z_nI, nIA, nIM, nIS, nIlt, nIle, nIeq, nIC, vpI, Nat.add_sub_cancel, Nat.not_le, Nat.not_lt, Nat.not_lt_zero, Nat.le_refl, not_true_eq_false, not_false_eq_true, false_imp_iff, true_imp_iff, forall_const, implies_true, Nat.reduceEqDiff, Nat.reduceLeDiff, Nat.reduceLT, zI_yI, va_upA, Nat.reduceEqDiff, ↓reduceIte, c73, b1, b2, m72, e74, z, Nat.add_zero, Nat.sub_zero, show ¬ n ≤ k by omega] <;> first | omega | exact F'
                have b74 : nI (ly l - lS nd a (fq k) l) - nI (nd k) = nI (ly l - (lS nd a (fq k) l + nd k)) := by rw [nIS (by omega), Nat.sub_sub]
                have stG : ∀ G : pm_H, zI G 73 k = nI l → (∀ p, p < k → zI G 73 p = zI g 73 p) → zI G 74 = va_up (zI g 74) l (nI (ly l - (lS nd a (fq k) l + nd k))) → zI G 75 = va_up (zI g 75) l (nI (uS a (fq k) l + 1)) → StD nd ly L (k + 1) a' G := fun G h1 h2 h3 h4 => ⟨fun p hp => by
                    by_cases e : p = k
                    · rw [e, h1, ak]
                    · rw [h2 p (by omega), st.1 p (by omega), ap p (by omega)], fun i hi => by
                    rw [h3, h4, va_upA, va_upA, sl, su']
                    obtain ⟨i1, i2⟩ := st.2 i hi
                    by_cases e : i = l
                    · rw [if_pos e, if_pos e, if_pos e, if_pos e, e]; exact ⟨rfl, rfl⟩
                    · rw [if_neg e, if_neg e, if_neg e, if_neg e]; exact ⟨i1, i2⟩⟩
                have C' : WP 172 188 [some (.ref 35), some (.int (nI n)), some (.int (nI co)), some (.int (nI mo)), some (.int (nI (nz (uS a (fq k)) L))), some (.int (nI k)), some (.int (nI l))] [] g Q := by
                  have go := fun G => ih (k + 1) (by omega) a' G (some (.int (nI l)))
                  by_cases z : uS a (fq k) l = 0
                  · rw [nzn, if_pos z] at go
                    rw [z] at t2
                    by_cases kn : n ≤ k + 1
                    · refine V172C  S' ?_ ?_ ?_ ?_ ?_ ?_ ?_ ?_ ?_ ?_ ?_ ?_ ?_ <;> simp (disch := omega) only [oi_l, oi_n, z_nI, nIA, nIM, nIS, nIlt, nIle, nIeq, nIC, vpI, Nat.add_sub_cancel, Nat.not_le, Nat.not_lt, Nat.not_lt_zero, Nat.le_refl, not_true_eq_false, not_false_eq_true, false_imp_iff, true_imp_iff, forall_const, implies_true, Nat.reduceEqDiff, Nat.reduceLeDiff, Nat.reduceLT, zI_yI, va_upA, Nat.reduceEqDiff, ↓reduceIte, eL', t1, t2, n72, b74, show ¬ l = L by omega, eq_true kn] <;> (try omega)
                      refine go _ (((sg.I 73 _ _ (by decide)).I 74 _ _ (by decide)).I 75 _ _ (by decide)) fe' (stG _ ?_ ?_ ?_ ?_) (fun q => by omega) nb' (by rw [nzn, if_pos z] at back; exact back)
                      · simp [zI_yI, va_upA]
                      · intro p hp; simp only [zI_yI, va_upA, Nat.reduceEqDiff, if_true, if_false]; rw [if_neg (by omega)]
                      · simp [zI_yI]
                      · simp [zI_yI, z]
                    · refine V172C  S' ?_ ?_ ?_ ?_ ?_ ?_ ?_ ?_ ?_ ?_ ?_ ?_ ?_ <;> simp (disch := omega) only [oi_l, oi_n, z_nI, nIA, nIM, nIS, nIlt, nIle, nIeq, nIC, vpI, Nat.add_sub_cancel, Nat.not_le, Nat.not_lt, Nat.not_lt_zero, Nat.le_refl, not_true_eq_false, not_false_eq_true, false_imp_iff, true_imp_iff, forall_const, implies_true, Nat.reduceEqDiff, Nat.reduceLeDiff, Nat.reduceLT, zI_yI, va_upA, Nat.reduceEqDiff, ↓reduceIte, eL', t1, t2, n72, b74, show ¬ l = L by omega, kn] <;> (try omega)
                      refine go _ ((((sg.I 73 _ _ (by decide)).I 74 _ _ (by decide)).I 75 _ _ (by decide)).I 73 _ _ (by decide)) fe' (stG _ ?_ ?_ ?_ ?_) (fun _ => ?_) nb' (by rw [nzn, if_pos z] at back; exact back)
                      · simp [zI_yI, va_upA]
                      · intro p hp; simp only [zI_yI, va_upA, Nat.reduceEqDiff, if_true, if_false]; rw [if_neg (by omega), if_neg (by omega)]
                      · simp [zI_yI]
                      · simp [zI_yI, z]
                      · simp [zI_yI, va_upA]
                  · rw [nzn, if_neg z] at go
                    by_cases kn : n ≤ k + 1
                    · refine V172C  S' ?_ ?_ ?_ ?_ ?_ ?_ ?_ ?_ ?_ ?_ ?_ ?_ ?_ <;> simp (disch := omega) only [oi_l, oi_n, z_nI, nIA, nIM, nIS, nIlt, nIle, nIeq, nIC, vpI, Nat.add_sub_cancel, Nat.not_le, Nat.not_lt, Nat.not_lt_zero, Nat.le_refl, not_true_eq_false, not_false_eq_true, false_imp_iff, true_imp_iff, forall_const, implies_true, Nat.reduceEqDiff, Nat.reduceLeDiff, Nat.reduceLT, zI_yI, va_upA, Nat.reduceEqDiff, ↓reduceIte, eL', t1, t2, n72, b74, z, Nat.add_zero, show ¬ l = L by omega, eq_true kn] <;> (try omega)
                      refine go _ (((sg.I 73 _ _ (by decide)).I 74 _ _ (by decide)).I 75 _ _ (by decide)) fe' (stG _ ?_ ?_ ?_ ?_) (fun q => by omega) nb' (by rw [nzn, if_neg z] at back; exact back)
                      · simp [zI_yI, va_upA]
                      · intro p hp; simp only [zI_yI, va_upA, Nat.reduceEqDiff, if_true, if_false]; rw [if_neg (by omega)]
                      · simp [zI_yI]
                      · simp [zI_yI]
                    · refine V172C  S' ?_ ?_ ?_ ?_ ?_ ?_ ?_ ?_ ?_ ?_ ?_ ?_ ?_ <;> simp (disch := omega) only [oi_l, oi_n, z_nI, nIA, nIM, nIS, nIlt, nIle, nIeq, nIC, vpI, Nat.add_sub_cancel, Nat.not_le, Nat.not_lt, Nat.not_lt_zero, Nat.le_refl, not_true_eq_false, not_false_eq_true, false_imp_iff, true_imp_iff, forall_const, implies_true, Nat.reduceEqDiff, Nat.reduceLeDiff, Nat.reduceLT, zI_yI, va_upA, Nat.reduceEqDiff, ↓reduceIte, eL', t1, t2, n72, b74, z, Nat.add_zero, show ¬ l = L by omega, kn] <;> (try omega)
                      refine go _ ((((sg.I 73 _ _ (by decide)).I 74 _ _ (by decide)).I 75 _ _ (by decide)).I 73 _ _ (by decide)) fe' (stG _ ?_ ?_ ?_ ?_) (fun _ => ?_) nb' (by rw [nzn, if_neg z] at back; exact back)
                      · simp [zI_yI, va_upA]
                      · intro p hp; simp only [zI_yI, va_upA, Nat.reduceEqDiff, if_true, if_false]; rw [if_neg (by omega), if_neg (by omega)]
                      · simp [zI_yI]
                      · simp [zI_yI]
                      · simp [zI_yI, va_upA]
                by_cases z : uS a (fq k) l = 0
                · have zm : ¬ nz (uS a (fq k)) L = mo := fun e => full ⟨z, e⟩
                  refine V172W  S' ?_ ?_ ?_ ?_ ?_ ?_ ?_ ?_ ?_ ?_ <;> simp (disch := omega) only [oi_l, oi_n, z_nI, nIA, nIM, nIS, nIlt, nIle, nIeq, nIC, vpI, Nat.add_sub_cancel, Nat.not_le, Nat.not_lt, Nat.not_lt_zero, Nat.le_refl, not_true_eq_false, not_false_eq_true, false_imp_iff, true_imp_iff, forall_const, implies_true, Nat.reduceEqDiff, Nat.reduceLeDiff, Nat.reduceLT, eL', c1', t1, t2, n72, nL, eq_true cc, lt, eq_true z, zm] <;> first | omega | exact C'
                · refine V172W  S' ?_ ?_ ?_ ?_ ?_ ?_ ?_ ?_ ?_ ?_ <;> simp (disch := omega) only [oi_l, oi_n, z_nI, nIA, nIM, nIS, nIlt, nIle, nIeq, nIC, vpI, Nat.add_sub_cancel, Nat.not_le, Nat.not_lt, Nat.not_lt_zero, Nat.le_refl, not_true_eq_false, not_false_eq_true, false_imp_iff, true_imp_iff, forall_const, implies_true, Nat.reduceEqDiff, Nat.reduceLeDiff, Nat.reduceLT, eL', c1', t1, t2, n72, nL, eq_true cc, lt, z] <;> first | omega | exact C'
          · have I' := skip (fun b sb ag e => by
              have h2 := (sb.1.1 k k8 (by rw [fq_e]; exact decide_eq_true (by omega))).2
              rw [e] at h2
              exact cc (by simpa using h2))
            refine V172W  S' ?_ ?_ ?_ ?_ ?_ ?_ ?_ ?_ ?_ ?_ <;> simp (disch := omega) only [oi_l, oi_n, z_nI, nIA, nIM, nIS, nIlt, nIle, nIeq, nIC, vpI, Nat.add_sub_cancel, Nat.not_le, Nat.not_lt, Nat.not_lt_zero, Nat.le_refl, not_true_eq_false, not_false_eq_true, false_imp_iff, true_imp_iff, forall_const, implies_true, Nat.reduceEqDiff, Nat.reduceLeDiff, Nat.reduceLT, eL', c1', t1, t2, n72, nL, cc] <;> first | omega | exact I'
      have c73 := ch (by omega)
      have W' := W L 0 g (by omega) sg st (fun b sb ag => Nat.zero_le _)
      have e0 : Int32.ofInt (-1) + Int32.ofInt 1 = nI 0 := rfl
      have zb := nz_le (uS a (fq k)) L
      refine V172H  (sg.SK S) ?_ ?_ ?_ ?_ ?_ ?_ ?_ ?_ ?_ ?_ ?_ <;> simp (disch := omega) only [oi_l, oi_n, z_nI, nIA, nIM, nIS, nIlt, nIle, nIeq, nIC, vpI, Nat.add_sub_cancel, Nat.not_le, Nat.not_lt, Nat.not_lt_zero, Nat.le_refl, not_true_eq_false, not_false_eq_true, false_imp_iff, true_imp_iff, forall_const, implies_true, Nat.reduceEqDiff, Nat.reduceLeDiff, Nat.reduceLT, c73, m1lt, show ¬ n ≤ k by omega] <;> first | omega | exact W'
  have I0 : ∀ m l (g : pm_H) d5 d6, l + m = L → Same [73, 74, 75] h g → (∀ i, i < l → zI g 74 i = nI (ly i) ∧ zI g 75 i = nI 0) → WP 172 3 [some (.ref 35), some (.int (nI n)), some (.int (nI co)), some (.int (nI mo)), some (.int (nI l)), d5, d6] [] g Q := by
    intro m
    induction m with
    | zero =>
      intro l g d5 d6 hl sg f
      obtain rfl : l = L := by omega
      have eL' : zI g 35 39 = nI l := by rw [sg.1 35 (by decide)]; exact eL
      have z : ∀ i, uS (fun _ => 0) (fq 0) i = 0 := fun i => fq_0
      have zl : ∀ i, lS nd (fun _ => 0) (fq 0) i = 0 := fun i => fq_0
      have zz : nz (uS (fun _ => 0) (fq 0)) l = 0 := by
        have : ∀ m, nz (uS (fun _ => 0) (fq 0)) m = 0 := fun m => by
          induction m with
          | zero => rfl
          | succ m ih => rw [nz, ih, z]; rfl
        exact this l
      have X' := X n 0 (by omega) (fun _ => 0) (yI g 73 0 (Int32.ofInt (-1))) d6 (sg.I 73 _ _ (by decide)) ⟨fun p hp => absurd hp (Nat.not_lt_zero _), fun i hi => by rw [zl]; exact Nat.zero_le _, by rw [zz]; exact Nat.zero_le _⟩ ⟨fun p hp => absurd hp (Nat.not_lt_zero _), fun i hi => by
        simp only [zI_yI, Nat.reduceEqDiff, if_false, z, zl, Nat.sub_zero]; exact f i hi⟩ (fun _ => by simp [zI_yI, va_upA]) (fun b sb j hj => absurd hj (Nat.not_lt_zero _)) (fun g' d6 sg' st' no => by
        have k' := kf (fun b sb => no b sb (fun p hp => absurd hp (Nat.not_lt_zero _))) g' sg'
        have c0 : Int32.ofInt (((0 : Nat) : Int) - 1) = Int32.ofInt (-1) := rfl
        rw [c0, zz]
        have ne : ¬ Int32.ofInt (-1) = nI n := fun e => by
          have := nI_ne1 (q := n) (by omega)
          rw [← e] at this
          simp at this
        refine V172H  (sg'.SK S) ?_ ?_ ?_ ?_ ?_ ?_ ?_ ?_ ?_ ?_ ?_ <;> simp (disch := omega) only [oi_l, oi_n, z_nI, nIA, nIM, nIS, nIlt, nIle, nIeq, nIC, vpI, Nat.add_sub_cancel, Nat.not_le, Nat.not_lt, Nat.not_lt_zero, Nat.le_refl, not_true_eq_false, not_false_eq_true, false_imp_iff, true_imp_iff, forall_const, implies_true, Nat.reduceEqDiff, Nat.reduceLeDiff, Nat.reduceLT, m1lt, ne] <;> first | omega | exact k')
      rw [zz] at X'
      refine V172I  (sg.SK S) ?_ ?_ ?_ ?_ ?_ ?_ <;> simp (disch := omega) only [oi_l, oi_n, z_nI, nIA, nIM, nIS, nIlt, nIle, nIeq, nIC, vpI, Nat.add_sub_cancel, Nat.not_le, Nat.not_lt, Nat.not_lt_zero, Nat.le_refl, not_true_eq_false, not_false_eq_true, false_imp_iff, true_imp_iff, forall_const, implies_true, Nat.reduceEqDiff, Nat.reduceLeDiff, Nat.reduceLT, eL'] <;> first | omega | exact X'
    | succ m ih =>
      intro l g d5 d6 hl sg f
      have eL' : zI g 35 39 = nI L := by rw [sg.1 35 (by decide)]; exact eL
      obtain ⟨-, c2⟩ := e55 l (by omega)
      have c2' : zI g 56 l = nI (ly l) := by rw [sg.1 56 (by decide)]; exact c2
      refine V172I  (sg.SK S) ?_ ?_ ?_ ?_ ?_ ?_ <;> simp (disch := omega) only [oi_l, oi_n, z_nI, nIA, nIM, nIS, nIlt, nIle, nIeq, nIC, vpI, Nat.add_sub_cancel, Nat.not_le, Nat.not_lt, Nat.not_lt_zero, Nat.le_refl, not_true_eq_false, not_false_eq_true, false_imp_iff, true_imp_iff, forall_const, implies_true, Nat.reduceEqDiff, Nat.reduceLeDiff, Nat.reduceLT, eL', c2', show ¬ L ≤ l by omega] <;> (try omega)
      refine ih (l + 1) _ d5 d6 (by omega) ((sg.I 74 _ _ (by decide)).I 75 _ _ (by decide)) (fun i hi => ?_)
      simp only [zI_yI, va_upA, Nat.reduceEqDiff, if_true, if_false]
      by_cases e : i = l
      · rw [if_pos e, if_pos e, e]; exact ⟨rfl, rfl⟩
      · rw [if_neg e, if_neg e]; exact f i (by omega)
  exact V172 S (I0 L 0 h none none (by omega) Same.rf (fun i hi => absurd hi (Nat.not_lt_zero _)))
end DYM

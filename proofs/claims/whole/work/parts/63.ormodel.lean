/-! BEST ORDER of the model -/
theorem V163 {h : pm_H} {Q : Option Value → pm_H → Prop} {x1 : Int32} {d2 : Option Value} {d3 : Option Value} {d4 : Option Value} {d5 : Option Value} {d6 : Option Value} {d7 : Option Value} {d8 : Option Value} (S : SK h) (k3 : (x1 < 0) → Q (some (.int (Int32.ofInt (-1)))) (yI (yI (yI h 35 1 (Int32.ofInt 0)) 35 0 (Int32.ofInt 0)) 35 0 (Int32.ofInt 1))) (k6 : (¬ x1 < 0) → ((zI h 35 16) ≤ x1) → Q (some (.int (Int32.ofInt (-1)))) (yI (yI (yI h 35 1 (Int32.ofInt 0)) 35 0 (Int32.ofInt 0)) 35 0 (Int32.ofInt 1))) (g8 : (¬ x1 < 0) → (¬ (zI h 35 16) ≤ x1) → vp_in x1 6) (k10 : (¬ x1 < 0) → (¬ (zI h 35 16) ≤ x1) → ((zI h 40 (x1).toNatClampNeg) ≤ (Int32.ofInt 8)) → WP 163 46 [some (.ref 35), some (.int x1), some (.int (zI h 40 (x1).toNatClampNeg)), some (.int (Int32.ofInt 0)), d4, d5, d6, d7, d8] [] (yI (yI h 35 1 (Int32.ofInt 0)) 35 0 (Int32.ofInt 0)) Q) (k11 : (¬ x1 < 0) → (¬ (zI h 35 16) ≤ x1) → (¬ (zI h 40 (x1).toNatClampNeg) ≤ (Int32.ofInt 8)) → Q (some (.int (Int32.ofInt (-1)))) (yI (yI (yI h 35 1 (Int32.ofInt 0)) 35 0 (Int32.ofInt 0)) 35 0 (Int32.ofInt 7))) : WP 163 0 [some (.ref 35), some (.int x1), d2, d3, d4, d5, d6, d7, d8] [] h Q :=
  B163_0 (S.T 35) (B152_0 (fun c1 => B152_16 (B152_17 oi0 (B163_15 (fun q => absurd (by decide) q) (fun _ => B163_18 (S.T 35) (B123_0 (S.T 35) (B163_23 (k3 c1))))))) (fun c1 => B152_4 (S.T 35) (fun c4 => B152_16 (B152_17 oi0 (B163_15 (fun q => absurd (by decide) q) (fun _ => B163_18 (S.T 35) (B123_0 (S.T 35) (B163_23 (k6 c1 c4))))))) (fun c4 => B152_12 (B152_17 oi1 (B163_15 (fun _ => B163_24 (S.T 35) (S.R 35 22) ⟨(S.T 40), (S.bd 40 (g8 c1 c4))⟩ (fun c9 => B163_44 (k10 c1 c4 c9)) (fun c9 => B163_37 (S.T 35) (B123_0 (S.T 35) (B163_43 (k11 c1 c4 c9))))) (fun q => absurd q (by decide)))))))
theorem V163a {h : pm_H} {Q : Option Value → pm_H → Prop} {d4 : Option Value} {d5 : Option Value} {d6 : Option Value} {d7 : Option Value} {d8 : Option Value} {c : Nat} {n : Nat} {i : Nat} (S : SK h) (k2 : ((nI n) ≤ (nI i)) → WP 163 110 [some (.ref 35), some (.int (nI c)), some (.int (nI n)), some (.int (((Int32.ofInt 1) <<< ((nI n) &&& 31)) - (Int32.ofInt 1))), some (.int (((Int32.ofInt 1) <<< ((nI n) &&& 31)) - (Int32.ofInt 1))), d5, d6, d7, d8] [] h Q) (k3 : (¬ (nI n) ≤ (nI i)) → WP 163 54 [some (.ref 35), some (.int (nI c)), some (.int (nI n)), some (.int (nI i)), some (.int (Int32.ofInt 0)), d5, d6, d7, d8] [] h Q) : WP 163 46 [some (.ref 35), some (.int (nI c)), some (.int (nI n)), some (.int (nI i)), d4, d5, d6, d7, d8] [] h Q :=
  B163_46 (fun c1 => B163_101 (k2 c1)) (fun c1 => B163_51 (k3 c1))
theorem V163b {h : pm_H} {Q : Option Value → pm_H → Prop} {d5 : Option Value} {d6 : Option Value} {d7 : Option Value} {d8 : Option Value} {c : Nat} {n : Nat} {i : Nat} {j : Nat} (S : SK h) (k2 : ((nI n) ≤ (nI j)) → WP 163 46 [some (.ref 35), some (.int (nI c)), some (.int (nI n)), some (.int ((nI i) + (Int32.ofInt 1))), some (.int (nI j)), d5, d6, d7, d8] [] h Q) (k3 : (¬ (nI n) ≤ (nI j)) → WP 156 0 [some (.ref 35), some (.int (((Int32.ofInt 12) * (nI c)) + (nI i))), some (.int (((Int32.ofInt 12) * (nI c)) + (nI j)))] [] h (fun v1 h1 => WP 163 88 [some (.ref 35), some (.int (nI c)), some (.int (nI n)), some (.int (nI i)), some (.int (nI j)), d5, d6, d7, d8] (v1.toList ++ [.int (((Int32.ofInt 8) * (nI i)) + (nI j)), .ref 69]) h1 Q)) : WP 163 54 [some (.ref 35), some (.int (nI c)), some (.int (nI n)), some (.int (nI i)), some (.int (nI j)), d5, d6, d7, d8] [] h Q :=
  B163_54 (fun c1 => B163_95 (k2 c1)) (fun c1 => B163_60 (S.T 35) (S.R 35 56) (k3 c1))
theorem V163c {h : pm_H} {Q : Option Value → pm_H → Prop} {ix : Int32} {va : Int32} {d5 : Option Value} {d6 : Option Value} {d7 : Option Value} {d8 : Option Value} {c : Nat} {n : Nat} {i : Nat} {j : Nat} (S : SK h) (g1 : vp_in ix 64) (k2 : WP 163 54 [some (.ref 35), some (.int (nI c)), some (.int (nI n)), some (.int (nI i)), some (.int ((nI j) + (Int32.ofInt 1))), d5, d6, d7, d8] [] (yI h 69 (ix).toNatClampNeg va) Q) : WP 163 88 [some (.ref 35), some (.int (nI c)), some (.int (nI n)), some (.int (nI i)), some (.int (nI j)), d5, d6, d7, d8] [.int va, .int ix, .ref 69] h Q :=
  B163_88 ⟨(S.T 69), (S.bd 69 g1)⟩ (k2)
theorem V163d {h : pm_H} {Q : Option Value → pm_H → Prop} {d5 : Option Value} {d6 : Option Value} {d7 : Option Value} {d8 : Option Value} {c : Nat} {n : Nat} {fu : Nat} {s : Nat} (S : SK h) (k2 : ((nI s) ≤ 0) → WP 163 251 [some (.ref 35), some (.int (nI c)), some (.int (nI n)), some (.int (nI fu)), some (.int (Int32.ofInt (-1000000))), some (.int (Int32.ofInt 0)), d6, d7, d8] [] h Q) (k3 : (¬ (nI s) ≤ 0) → WP 163 118 [some (.ref 35), some (.int (nI c)), some (.int (nI n)), some (.int (nI fu)), some (.int (nI s)), some (.int (Int32.ofInt 0)), d6, d7, d8] [] h Q) : WP 163 110 [some (.ref 35), some (.int (nI c)), some (.int (nI n)), some (.int (nI fu)), some (.int (nI s)), d5, d6, d7, d8] [] h Q :=
  B163_110 (fun c1 => B163_243 (k2 c1)) (fun c1 => B163_115 (k3 c1))
theorem V163e {h : pm_H} {Q : Option Value → pm_H → Prop} {d6 : Option Value} {d7 : Option Value} {d8 : Option Value} {c : Nat} {n : Nat} {fu : Nat} {s : Nat} {i : Nat} (S : SK h) (k2 : ((nI n) ≤ (nI i)) → WP 163 110 [some (.ref 35), some (.int (nI c)), some (.int (nI n)), some (.int (nI fu)), some (.int ((nI s) + (Int32.ofInt (-1)))), some (.int (nI i)), d6, d7, d8] [] h Q) (k5 : (¬ (nI n) ≤ (nI i)) → (¬ (((nI s) >>> ((nI i) &&& 31)) &&& (Int32.ofInt 1)) = 0) → (¬ (nI s) = (nI fu)) → WP 163 155 [some (.ref 35), some (.int (nI c)), some (.int (nI n)), some (.int (nI fu)), some (.int (nI s)), some (.int (nI i)), some (.int (Int32.ofInt (-1000000))), some (.int (Int32.ofInt 0)), d8] [] h Q) (k6 : (¬ (nI n) ≤ (nI i)) → (¬ (((nI s) >>> ((nI i) &&& 31)) &&& (Int32.ofInt 1)) = 0) → ((nI s) = (nI fu)) → WP 163 155 [some (.ref 35), some (.int (nI c)), some (.int (nI n)), some (.int (nI fu)), some (.int (nI s)), some (.int (nI i)), some (.int (Int32.ofInt 0)), some (.int (Int32.ofInt 0)), d8] [] h Q) (k7 : (¬ (nI n) ≤ (nI i)) → ((((nI s) >>> ((nI i) &&& 31)) &&& (Int32.ofInt 1)) = 0) → WP 163 118 [some (.ref 35), some (.int (nI c)), some (.int (nI n)), some (.int (nI fu)), some (.int (nI s)), some (.int ((nI i) + (Int32.ofInt 1))), d6, d7, d8] [] h Q) : WP 163 118 [some (.ref 35), some (.int (nI c)), some (.int (nI n)), some (.int (nI fu)), some (.int (nI s)), some (.int (nI i)), d6, d7, d8] [] h Q :=
  B163_118 (fun c1 => B163_237 (k2 c1)) (fun c1 => B163_124 (fun c3 => B163_137 (fun c4 => B163_147 (B163_150 (k5 c1 c3 c4))) (fun c4 => B163_143 (B163_150 (k6 c1 c3 c4)))) (fun c3 => B163_134 (B163_231 (k7 c1 c3))))
theorem V163f {h : pm_H} {Q : Option Value → pm_H → Prop} {mo : Int32} {d8 : Option Value} {c : Nat} {n : Nat} {fu : Nat} {s : Nat} {i : Nat} {j : Nat} (S : SK h) (g2 : ((nI n) ≤ (nI j)) → vp_in (((Int32.ofInt 8) * (nI s)) + (nI i)) 2048) (k3 : ((nI n) ≤ (nI j)) → WP 163 118 [some (.ref 35), some (.int (nI c)), some (.int (nI n)), some (.int (nI fu)), some (.int (nI s)), some (.int ((nI i) + (Int32.ofInt 1))), some (.int mo), some (.int (nI j)), d8] [] (yI h 70 ((((Int32.ofInt 8) * (nI s)) + (nI i))).toNatClampNeg mo) Q) (k5 : (¬ (nI n) ≤ (nI j)) → (¬ (((nI s) >>> ((nI j) &&& 31)) &&& (Int32.ofInt 1)) = 0) → WP 163 155 [some (.ref 35), some (.int (nI c)), some (.int (nI n)), some (.int (nI fu)), some (.int (nI s)), some (.int (nI i)), some (.int mo), some (.int ((nI j) + (Int32.ofInt 1))), d8] [] h Q) (g6 : (¬ (nI n) ≤ (nI j)) → ((((nI s) >>> ((nI j) &&& 31)) &&& (Int32.ofInt 1)) = 0) → vp_in (((Int32.ofInt 8) * (nI i)) + (nI j)) 64) (g7 : (¬ (nI n) ≤ (nI j)) → ((((nI s) >>> ((nI j) &&& 31)) &&& (Int32.ofInt 1)) = 0) → vp_in (((Int32.ofInt 8) * ((nI s) ||| ((Int32.ofInt 1) <<< ((nI j) &&& 31)))) + (nI j)) 2048) (k8 : (¬ (nI n) ≤ (nI j)) → ((((nI s) >>> ((nI j) &&& 31)) &&& (Int32.ofInt 1)) = 0) → WP 163 155 [some (.ref 35), some (.int (nI c)), some (.int (nI n)), some (.int (nI fu)), some (.int (nI s)), some (.int (nI i)), some (.int (mxI mo ((zI h 69 ((((Int32.ofInt 8) * (nI i)) + (nI j))).toNatClampNeg) + (zI h 70 ((((Int32.ofInt 8) * ((nI s) ||| ((Int32.ofInt 1) <<< ((nI j) &&& 31)))) + (nI j))).toNatClampNeg)))), some (.int ((nI j) + (Int32.ofInt 1))), d8] [] h Q) : WP 163 155 [some (.ref 35), some (.int (nI c)), some (.int (nI n)), some (.int (nI fu)), some (.int (nI s)), some (.int (nI i)), some (.int mo), some (.int (nI j)), d8] [] h Q :=
  B163_155 (fun c1 => B163_216 (S.T 35) (S.R 35 57) ⟨(S.T 70), (S.bd 70 (g2 c1))⟩ (B163_231 (k3 c1))) (fun c1 => B163_161 (fun c4 => B163_210 (k5 c1 c4)) (fun c4 => B163_171 (S.T 35) (S.R 35 56) ⟨(S.T 69), (S.bd 69 (g6 c1 c4))⟩ (S.R 35 57) ⟨(S.T 70), (S.bd 70 (g7 c1 c4))⟩ (B163_210 (k8 c1 c4))))
theorem V163g {h : pm_H} {Q : Option Value → pm_H → Prop} {all : Int32} {d6 : Option Value} {d7 : Option Value} {d8 : Option Value} {c : Nat} {n : Nat} {fu : Nat} {i : Nat} (S : SK h) (k2 : ((nI n) ≤ (nI i)) → WP 163 288 [some (.ref 35), some (.int (nI c)), some (.int (nI n)), some (.int (nI fu)), some (.int all), some (.int (Int32.ofInt 0)), d6, d7, d8] [] h Q) (g3 : (¬ (nI n) ≤ (nI i)) → vp_in (((Int32.ofInt 8) * ((Int32.ofInt 1) <<< ((nI i) &&& 31))) + (nI i)) 2048) (k4 : (¬ (nI n) ≤ (nI i)) → WP 163 251 [some (.ref 35), some (.int (nI c)), some (.int (nI n)), some (.int (nI fu)), some (.int (mxI all (zI h 70 ((((Int32.ofInt 8) * ((Int32.ofInt 1) <<< ((nI i) &&& 31))) + (nI i))).toNatClampNeg))), some (.int ((nI i) + (Int32.ofInt 1))), d6, d7, d8] [] h Q) : WP 163 251 [some (.ref 35), some (.int (nI c)), some (.int (nI n)), some (.int (nI fu)), some (.int all), some (.int (nI i)), d6, d7, d8] [] h Q :=
  B163_251 (fun c1 => B163_285 (k2 c1)) (fun c1 => B163_257 (S.T 35) (S.R 35 57) ⟨(S.T 70), (S.bd 70 (g3 c1))⟩ (k4 c1))
theorem V163h {h : pm_H} {Q : Option Value → pm_H → Prop} {all : Int32} {d6 : Option Value} {d7 : Option Value} {d8 : Option Value} {c : Nat} {n : Nat} {fu : Nat} {l : Nat} (S : SK h) (g1 : vp_in (((Int32.ofInt 8) * ((Int32.ofInt 1) <<< ((nI l) &&& 31))) + (nI l)) 2048) (g3 : ((zI h 70 ((((Int32.ofInt 8) * ((Int32.ofInt 1) <<< ((nI l) &&& 31))) + (nI l))).toNatClampNeg) = all) → vp_in (Int32.ofInt 0) 12) (k4 : ((zI h 70 ((((Int32.ofInt 8) * ((Int32.ofInt 1) <<< ((nI l) &&& 31))) + (nI l))).toNatClampNeg) = all) → WP 163 331 [some (.ref 35), some (.int (nI c)), some (.int (nI n)), some (.int (nI fu)), some (.int all), some (.int (nI l)), some (.int ((Int32.ofInt 1) <<< ((nI l) &&& 31))), some (.int (Int32.ofInt 1)), d8] [] (yI h 62 ((Int32.ofInt 0)).toNatClampNeg (nI l)) Q) (k5 : (¬ (zI h 70 ((((Int32.ofInt 8) * ((Int32.ofInt 1) <<< ((nI l) &&& 31))) + (nI l))).toNatClampNeg) = all) → WP 163 288 [some (.ref 35), some (.int (nI c)), some (.int (nI n)), some (.int (nI fu)), some (.int all), some (.int ((nI l) + (Int32.ofInt 1))), d6, d7, d8] [] h Q) : WP 163 288 [some (.ref 35), some (.int (nI c)), some (.int (nI n)), some (.int (nI fu)), some (.int all), some (.int (nI l)), d6, d7, d8] [] h Q :=
  B163_288 (S.T 35) (S.R 35 57) ⟨(S.T 70), (S.bd 70 g1)⟩ (fun c2 => B163_314 (S.T 35) (S.R 35 48) ⟨(S.T 62), (S.bd 62 (g3 c2))⟩ (k4 c2)) (fun c2 => B163_308 (k5 c2))
theorem V163i {h : pm_H} {Q : Option Value → pm_H → Prop} {all : Int32} {d8 : Option Value} {c : Nat} {n : Nat} {fu : Nat} {l : Nat} {s : Nat} {k : Nat} (S : SK h) (k2 : ((nI n) ≤ (nI k)) → Q (some (.int all)) (yI h 35 49 (nI n))) (k3 : (¬ (nI n) ≤ (nI k)) → WP 163 340 [some (.ref 35), some (.int (nI c)), some (.int (nI n)), some (.int (nI fu)), some (.int all), some (.int (nI l)), some (.int (nI s)), some (.int (nI k)), some (.int (Int32.ofInt 0))] [] h Q) : WP 163 331 [some (.ref 35), some (.int (nI c)), some (.int (nI n)), some (.int (nI fu)), some (.int all), some (.int (nI l)), some (.int (nI s)), some (.int (nI k)), d8] [] h Q :=
  B163_331 (fun c1 => B163_433 (S.T 35) (k2 c1)) (fun c1 => B163_337 (k3 c1))
theorem V163j {h : pm_H} {Q : Option Value → pm_H → Prop} {all : Int32} {c : Nat} {n : Nat} {fu : Nat} {l : Nat} {s : Nat} {k : Nat} {j : Nat} (S : SK h) (k2 : ((((nI s) >>> ((nI j) &&& 31)) &&& (Int32.ofInt 1)) = (Int32.ofInt 1)) → WP 163 340 [some (.ref 35), some (.int (nI c)), some (.int (nI n)), some (.int (nI fu)), some (.int all), some (.int (nI l)), some (.int (nI s)), some (.int (nI k)), some (.int ((nI j) + (Int32.ofInt 1)))] [] h Q) (g3 : (¬ (((nI s) >>> ((nI j) &&& 31)) &&& (Int32.ofInt 1)) = (Int32.ofInt 1)) → vp_in (((Int32.ofInt 8) * (nI l)) + (nI j)) 64) (g4 : (¬ (((nI s) >>> ((nI j) &&& 31)) &&& (Int32.ofInt 1)) = (Int32.ofInt 1)) → vp_in (((Int32.ofInt 8) * ((nI s) ||| ((Int32.ofInt 1) <<< ((nI j) &&& 31)))) + (nI j)) 2048) (g5 : (¬ (((nI s) >>> ((nI j) &&& 31)) &&& (Int32.ofInt 1)) = (Int32.ofInt 1)) → vp_in (((Int32.ofInt 8) * (nI s)) + (nI l)) 2048) (g7 : (¬ (((nI s) >>> ((nI j) &&& 31)) &&& (Int32.ofInt 1)) = (Int32.ofInt 1)) → (((zI h 69 ((((Int32.ofInt 8) * (nI l)) + (nI j))).toNatClampNeg) + (zI h 70 ((((Int32.ofInt 8) * ((nI s) ||| ((Int32.ofInt 1) <<< ((nI j) &&& 31)))) + (nI j))).toNatClampNeg)) = (zI h 70 ((((Int32.ofInt 8) * (nI s)) + (nI l))).toNatClampNeg)) → vp_in (nI k) 12) (k8 : (¬ (((nI s) >>> ((nI j) &&& 31)) &&& (Int32.ofInt 1)) = (Int32.ofInt 1)) → (((zI h 69 ((((Int32.ofInt 8) * (nI l)) + (nI j))).toNatClampNeg) + (zI h 70 ((((Int32.ofInt 8) * ((nI s) ||| ((Int32.ofInt 1) <<< ((nI j) &&& 31)))) + (nI j))).toNatClampNeg)) = (zI h 70 ((((Int32.ofInt 8) * (nI s)) + (nI l))).toNatClampNeg)) → WP 163 331 [some (.ref 35), some (.int (nI c)), some (.int (nI n)), some (.int (nI fu)), some (.int all), some (.int (nI j)), some (.int ((nI s) ||| ((Int32.ofInt 1) <<< ((nI j) &&& 31)))), some (.int ((nI k) + (Int32.ofInt 1))), some (.int (nI j))] [] (yI h 62 ((nI k)).toNatClampNeg (nI j)) Q) (k9 : (¬ (((nI s) >>> ((nI j) &&& 31)) &&& (Int32.ofInt 1)) = (Int32.ofInt 1)) → (¬ ((zI h 69 ((((Int32.ofInt 8) * (nI l)) + (nI j))).toNatClampNeg) + (zI h 70 ((((Int32.ofInt 8) * ((nI s) ||| ((Int32.ofInt 1) <<< ((nI j) &&& 31)))) + (nI j))).toNatClampNeg)) = (zI h 70 ((((Int32.ofInt 8) * (nI s)) + (nI l))).toNatClampNeg)) → WP 163 340 [some (.ref 35), some (.int (nI c)), some (.int (nI n)), some (.int (nI fu)), some (.int all), some (.int (nI l)), some (.int (nI s)), some (.int (nI k)), some (.int ((nI j) + (Int32.ofInt 1)))] [] h Q) : WP 163 340 [some (.ref 35), some (.int (nI c)), some (.int (nI n)), some (.int (nI fu)), some (.int all), some (.int (nI l)), some (.int (nI s)), some (.int (nI k)), some (.int (nI j))] [] h Q :=
  B163_340 (fun c1 => B163_399 (k2 c1)) (fun c1 => B163_351 (S.T 35) (S.R 35 56) ⟨(S.T 69), (S.bd 69 (g3 c1))⟩ (S.R 35 57) ⟨(S.T 70), (S.bd 70 (g4 c1))⟩ ⟨(S.T 70), (S.bd 70 (g5 c1))⟩ (fun c6 => B163_405 (S.T 35) (S.R 35 48) ⟨(S.T 62), (S.bd 62 (g7 c1 c6))⟩ (k8 c1 c6)) (fun c6 => B163_399 (k9 c1 c6)))
theorem m163 {h : pm_H} {Q : Option Value → pm_H → Prop} {B : Bk} {c n : Nat} {d4 d5 d6 d7 d8 : Option Value} (S : SK h) (bo : bk_ok B) (mb : MB h B) (hc : c < B.2.length) (hn : n = (clL B c).2.length) (hn8 : n ≤ 8)
    (k0 : ∀ g, Sq [62, 69, 70] h g → zI g 35 49 = nI n → (∀ k, k < n → zI g 62 k = nI (oSt (prB B c) n k).2) → Q (some (.int (Int32.ofInt (oV (prB B c) n (2 ^ oFst (prB B c) n) (oFst (prB B c) n))))) g) :
    WP 163 46 [some (.ref 35), some (.int (nI c)), some (.int (nI n)), some (.int (nI 0)), d4, d5, d6, d7, d8] [] h Q := by
  obtain ⟨u1, u2, u3, u4⟩ := bk_cl bo hc
  rw [← hn] at u2 u3 u4
  have hl := bo.2.1
  obtain ⟨pr, epr⟩ : ∃ pr, pr = prB B c := ⟨_, rfl⟩
  rw [← epr] at k0
  have hp : ∀ i j, i < n → j < n → -400 ≤ pr i j ∧ pr i j ≤ 1200 := fun i j hi hj => by rw [epr]; exact sV_b (bk_st bo (u4 i hi).1).1 _ _ _ _
  have P8 := p8 hn8
  have pos : 0 < 2 ^ n := Nat.pow_pos (by decide)
  have MBg : ∀ g, Sq [62, 69, 70] h g → MB g B := fun g sg => mb.keep (sg.K rfl)
  obtain ⟨E69, e69d⟩ : ∃ E : pm_H → Prop, E = fun g => ∀ i j, i < n → j < n → zI g 69 (8 * i + j) = Int32.ofInt (pr i j) := ⟨_, rfl⟩
  obtain ⟨all, eall⟩ : ∃ a, a = oV pr n (2 ^ oFst pr n) (oFst pr n) := ⟨_, rfl⟩
  rw [← eall] at k0
  have l0 : oFst pr n < n := amx_lt _ _ (by omega)
  have allb : -102400 ≤ all ∧ all ≤ 307200 := by rw [eall]; exact oV_b hn8 hp (Nat.pow_lt_pow_right (by decide) l0) l0
  -- the parts in their order
  have K : ∀ m k (g : pm_H) d8, k + m = n → 1 ≤ k → Sq [62, 69, 70] h g → (∀ i j, i < n → j < n → zI g 69 (8 * i + j) = Int32.ofInt (pr i j)) → (∀ s i, 0 < s → s < 2 ^ n → i < n → s.testBit i = true → zI g 70 (8 * s + i) = Int32.ofInt (oV pr n s i)) → (∀ t, t < k → zI g 62 t = nI (oSt pr n t).2) →
      WP 163 331 [some (.ref 35), some (.int (nI c)), some (.int (nI n)), some (.int (nI (2 ^ n - 1))), some (.int (Int32.ofInt all)), some (.int (nI (oSt pr n (k - 1)).2)), some (.int (nI (oSt pr n (k - 1)).1)), some (.int (nI k)), d8] [] g Q := by
    intro m
    induction m with
    | zero =>
      intro k g d8 hk h1 sg e69 e70 f
      obtain rfl : k = n := by omega
      refine V163i  (sg.1.SK S) ?_ ?_ <;> simp (disch := omega) only [oi_l, oi_n, z_nI, nIA, nIM, nIS, nIlt, nIle, nIeq, nIC, vpI, Nat.add_sub_cancel, Nat.not_le, Nat.not_lt, Nat.not_lt_zero, Nat.le_refl, not_true_eq_false, not_false_eq_true, false_imp_iff, true_imp_iff, forall_const, implies_true, Nat.reduceEqDiff, Nat.reduceLeDiff, Nat.reduceLT] <;> (try omega)
      exact k0 _ (sg.O _) (by simp [zI_yI, va_upA]) (fun t ht => by simp only [zI_yI, Nat.reduceEqDiff, if_false]; exact f t ht)
    | succ m ih =>
      intro k g d8 hk h1 sg e69 e70 f
      obtain ⟨i1, i2, i3, i4, i5, i6⟩ := oSt_ok (pr := pr) (show 0 < n by omega) (k - 1) (by omega)
      obtain ⟨b, hb, b1, b2⟩ := i6 (by omega)
      have ek : oSt pr n k = ((oSt pr n (k - 1)).1 ||| 2 ^ b, b) := by
        have e : oSt pr n (k - 1 + 1) = ((oSt pr n (k - 1)).1 ||| 2 ^ (oN pr n (oSt pr n (k - 1)).1 (oSt pr n (k - 1)).2).getD 0, (oN pr n (oSt pr n (k - 1)).1 (oSt pr n (k - 1)).2).getD 0) := rfl
        rw [Nat.sub_add_cancel h1, hb] at e
        exact e
      obtain ⟨s, es⟩ : ∃ s, s = (oSt pr n (k - 1)).1 := ⟨_, rfl⟩
      obtain ⟨l, el⟩ : ∃ l, l = (oSt pr n (k - 1)).2 := ⟨_, rfl⟩
      rw [← es, ← el] at hb
      rw [← es] at i1 i2 i4 i5 b2 ek
      rw [← el] at i3 i4
      rw [← es, ← el]
      obtain ⟨x1, x2⟩ := am2_x hb
      have s8 : s < 256 := by omega
      have ov := oV_eq (pr := pr) (last := l) i2 i1
      rw [hb] at ov
      have ov' : oV pr n s l = oF pr n s l b := ov
      have yv := e70 s l i2 i1 i3 i4
      rw [ov'] at yv
      have bb := oF_b hn8 hp i1 i3 b1
      have J : ∀ r j (d : Unit), j + r = b → WP 163 340 [some (.ref 35), some (.int (nI c)), some (.int (nI n)), some (.int (nI (2 ^ n - 1))), some (.int (Int32.ofInt all)), some (.int (nI l)), some (.int (nI s)), some (.int (nI k)), some (.int (nI j))] [] g Q := by
        intro r
        induction r with
        | zero =>
          intro j _ hj
          obtain rfl : j = b := by omega
          have y1 := e69 l j i3 b1
          have y2 := e70 (s ||| 2 ^ j) j (by have := or_gt b2; omega) (or_lt i1 b1) b1 (by rw [Nat.testBit_or, Nat.testBit_two_pow_self, Bool.or_true])
          have o8 := or8 hn8 i1 b1
          have ef : pr l j + oV pr n (s ||| 2 ^ j) j = oF pr n s l j := rfl
          have I' := ih (k + 1) (yI g 62 k (nI j)) (some (.int (nI j))) (by omega) (by omega) (sg.I 62 _ _ (by decide) (by decide)) (by simp only [zI_yI, Nat.reduceEqDiff, if_false]; exact e69) (by simp only [zI_yI, Nat.reduceEqDiff, if_false]; exact e70) (fun t ht => by
            simp only [zI_yI, va_upA, if_true]
            by_cases e : t = k
            · rw [if_pos e, e, ek]
            · rw [if_neg e]; exact f t (by omega))
          rw [Nat.add_sub_cancel, ek] at I'
          refine V163j  (sg.1.SK S) ?_ ?_ ?_ ?_ ?_ ?_ ?_ <;> simp (disch := omega) only [oi_l, oi_n, z_nI, nIA, nIM, nIS, nIlt, nIle, nIeq, nIC, vpI, Nat.add_sub_cancel, Nat.not_le, Nat.not_lt, Nat.not_lt_zero, Nat.le_refl, not_true_eq_false, not_false_eq_true, false_imp_iff, true_imp_iff, forall_const, implies_true, Nat.reduceEqDiff, Nat.reduceLeDiff, Nat.reduceLT, nShr, nShl, nOr, b2, y1, y2, yv, zADD, ef, ↓reduceIte, Bool.false_eq_true] <;> first | omega | exact I'
        | succ r ihr =>
          intro j _ hj
          have I' := ihr (j + 1) () (by omega)
          cases hbj : s.testBit j with
          | true =>
            refine V163j  (sg.1.SK S) ?_ ?_ ?_ ?_ ?_ ?_ ?_ <;> simp (disch := omega) only [oi_l, oi_n, z_nI, nIA, nIM, nIS, nIlt, nIle, nIeq, nIC, vpI, Nat.add_sub_cancel, Nat.not_le, Nat.not_lt, Nat.not_lt_zero, Nat.le_refl, not_true_eq_false, not_false_eq_true, false_imp_iff, true_imp_iff, forall_const, implies_true, Nat.reduceEqDiff, Nat.reduceLeDiff, Nat.reduceLT, nShr, hbj, ↓reduceIte] <;> first | omega | exact I'
          | false =>
            have y1 := e69 l j i3 (by omega)
            have y2 := e70 (s ||| 2 ^ j) j (by have := or_gt hbj; omega) (or_lt i1 (by omega)) (by omega) (by rw [Nat.testBit_or, Nat.testBit_two_pow_self, Bool.or_true])
            have o8 := or8 hn8 i1 (show j < n by omega)
            have ef : pr l j + oV pr n (s ||| 2 ^ j) j = oF pr n s l j := rfl
            have lt := x2 j (by omega) (by rw [hbj]; rfl)
            have ne : ¬ oF pr n s l j = oF pr n s l b := by omega
            have bj := oF_b hn8 hp i1 i3 (show j < n by omega)
            refine V163j  (sg.1.SK S) ?_ ?_ ?_ ?_ ?_ ?_ ?_ <;> simp (disch := omega) only [oi_l, oi_n, z_nI, nIA, nIM, nIS, nIlt, nIle, nIeq, nIC, vpI, Nat.add_sub_cancel, Nat.not_le, Nat.not_lt, Nat.not_lt_zero, Nat.le_refl, not_true_eq_false, not_false_eq_true, false_imp_iff, true_imp_iff, forall_const, implies_true, Nat.reduceEqDiff, Nat.reduceLeDiff, Nat.reduceLT, nShr, nShl, nOr, hbj, y1, y2, yv, zADD, ef, zEQ, ne, ↓reduceIte, Bool.false_eq_true] <;> first | omega | exact I'
      have J' := J b 0 () (Nat.zero_add _)
      refine V163i  (sg.1.SK S) ?_ ?_ <;> simp (disch := omega) only [oi_l, oi_n, z_nI, nIA, nIM, nIS, nIlt, nIle, nIeq, nIC, vpI, Nat.add_sub_cancel, Nat.not_le, Nat.not_lt, Nat.not_lt_zero, Nat.le_refl, not_true_eq_false, not_false_eq_true, false_imp_iff, true_imp_iff, forall_const, implies_true, Nat.reduceEqDiff, Nat.reduceLeDiff, Nat.reduceLT, show ¬ n ≤ k by omega] <;> first | omega | exact J'
  have sv : ∀ (g : pm_H), (∀ s i, 0 < s → s < 2 ^ n → i < n → s.testBit i = true → zI g 70 (8 * s + i) = Int32.ofInt (oV pr n s i)) → ∀ i, i < n → zI g 70 (8 * 2 ^ i + i) = Int32.ofInt (oV pr n (2 ^ i) i) ∧ 2 ^ i < 256 ∧ -102400 ≤ oV pr n (2 ^ i) i ∧ oV pr n (2 ^ i) i ≤ 307200 := fun g e70 i hi => by
    have x := Nat.pow_lt_pow_right (a := 2) (by decide) hi
    have b := oV_b hn8 hp x hi
    exact ⟨e70 _ i (Nat.pow_pos (by decide)) x hi Nat.testBit_two_pow_self, by omega, b.1, b.2⟩
  have H : ∀ r l (g : pm_H) d6 d7 d8, l + r = oFst pr n → Sq [62, 69, 70] h g → (∀ i j, i < n → j < n → zI g 69 (8 * i + j) = Int32.ofInt (pr i j)) → (∀ s i, 0 < s → s < 2 ^ n → i < n → s.testBit i = true → zI g 70 (8 * s + i) = Int32.ofInt (oV pr n s i)) →
      WP 163 288 [some (.ref 35), some (.int (nI c)), some (.int (nI n)), some (.int (nI (2 ^ n - 1))), some (.int (Int32.ofInt all)), some (.int (nI l)), d6, d7, d8] [] g Q := by
    intro r
    induction r with
    | zero =>
      intro l g d6 d7 d8 hr sg e69 e70
      obtain rfl : l = oFst pr n := by omega
      obtain ⟨y, y8, -⟩ := sv g e70 _ l0
      rw [← eall] at y
      have K' := K (n - 1) 1 (yI g 62 0 (nI (oFst pr n))) d8 (by omega) (by omega) (sg.I 62 _ _ (by decide) (by decide)) (by simp only [zI_yI, Nat.reduceEqDiff, if_false]; exact e69) (by simp only [zI_yI, Nat.reduceEqDiff, if_false]; exact e70) (fun t ht => by
        obtain rfl : t = 0 := by omega
        simp only [zI_yI, va_upA, if_true]; rfl)
      refine V163h  (sg.1.SK S) ?_ ?_ ?_ ?_ <;> simp (disch := omega) only [oi_l, oi_n, z_nI, nIA, nIM, nIS, nIlt, nIle, nIeq, nIC, vpI, Nat.add_sub_cancel, Nat.not_le, Nat.not_lt, Nat.not_lt_zero, Nat.le_refl, not_true_eq_false, not_false_eq_true, false_imp_iff, true_imp_iff, forall_const, implies_true, Nat.reduceEqDiff, Nat.reduceLeDiff, Nat.reduceLT, nShl, y] <;> first | omega | exact K'
    | succ r ih =>
      intro l g d6 d7 d8 hr sg e69 e70
      obtain ⟨y, y8, yb⟩ := sv g e70 l (by omega)
      have lt := amx_fst (fun i => oV pr n (2 ^ i) i) n l (by show l < oFst pr n; omega)
      have lt' : oV pr n (2 ^ l) l < all := by rw [eall]; exact lt
      have ne : ¬ oV pr n (2 ^ l) l = all := by omega
      have I' := ih (l + 1) g d6 d7 d8 (by omega) sg e69 e70
      refine V163h  (sg.1.SK S) ?_ ?_ ?_ ?_ <;> simp (disch := omega) only [oi_l, oi_n, z_nI, nIA, nIM, nIS, nIlt, nIle, nIeq, nIC, vpI, Nat.add_sub_cancel, Nat.not_le, Nat.not_lt, Nat.not_lt_zero, Nat.le_refl, not_true_eq_false, not_false_eq_true, false_imp_iff, true_imp_iff, forall_const, implies_true, Nat.reduceEqDiff, Nat.reduceLeDiff, Nat.reduceLT, nShl, y, zEQ, ne] <;> first | omega | exact I'
  have G : ∀ m i (g : pm_H) al d6 d7 d8, i + m = n → (i = 0 ∧ al = Int32.ofInt (-1000000)) ∨ (0 < i ∧ al = Int32.ofInt (oV pr n (2 ^ amx (fun i => oV pr n (2 ^ i) i) i) (amx (fun i => oV pr n (2 ^ i) i) i))) → Sq [62, 69, 70] h g → (∀ i j, i < n → j < n → zI g 69 (8 * i + j) = Int32.ofInt (pr i j)) → (∀ s i, 0 < s → s < 2 ^ n → i < n → s.testBit i = true → zI g 70 (8 * s + i) = Int32.ofInt (oV pr n s i)) →
      WP 163 251 [some (.ref 35), some (.int (nI c)), some (.int (nI n)), some (.int (nI (2 ^ n - 1))), some (.int al), some (.int (nI i)), d6, d7, d8] [] g Q := by
    intro m
    induction m with
    | zero =>
      intro i g al d6 d7 d8 hi ha sg e69 e70
      obtain rfl : i = n := by omega
      rcases ha with ⟨q, -⟩ | ⟨-, ha⟩
      · omega
      have H' := H (oFst pr i) 0 g d6 d7 d8 (Nat.zero_add _) sg e69 e70
      have ea : al = Int32.ofInt all := by rw [ha, eall]; rfl
      subst ea
      refine V163g  (sg.1.SK S) ?_ ?_ ?_ <;> simp (disch := omega) only [oi_l, oi_n, z_nI, nIA, nIM, nIS, nIlt, nIle, nIeq, nIC, vpI, Nat.add_sub_cancel, Nat.not_le, Nat.not_lt, Nat.not_lt_zero, Nat.le_refl, not_true_eq_false, not_false_eq_true, false_imp_iff, true_imp_iff, forall_const, implies_true, Nat.reduceEqDiff, Nat.reduceLeDiff, Nat.reduceLT] <;> first | omega | exact H'
    | succ m ih =>
      intro i g al d6 d7 d8 hi ha sg e69 e70
      obtain ⟨y, y8, y1, y2⟩ := sv g e70 i (by omega)
      rcases ha with ⟨rfl, rfl⟩ | ⟨h1, rfl⟩
      · have I' := ih 1 g (Int32.ofInt (oV pr n (2 ^ 0) 0)) d6 d7 d8 (by omega) (Or.inr ⟨by omega, by rw [amx_1]⟩) sg e69 e70
        refine V163g  (sg.1.SK S) ?_ ?_ ?_ <;> simp (disch := omega) only [oi_l, oi_n, z_nI, nIA, nIM, nIS, nIlt, nIle, nIeq, nIC, vpI, Nat.add_sub_cancel, Nat.not_le, Nat.not_lt, Nat.not_lt_zero, Nat.le_refl, not_true_eq_false, not_false_eq_true, false_imp_iff, true_imp_iff, forall_const, implies_true, Nat.reduceEqDiff, Nat.reduceLeDiff, Nat.reduceLT, nShl, y, mxZ1 (show (-2147483648 : Int) ≤ -1000000 by decide) (show (-1000000 : Int) < oV pr n (2 ^ 0) 0 by omega) (show oV pr n (2 ^ 0) 0 < 2147483648 by omega), show ¬ n ≤ 0 by omega] <;> first | omega | exact I'
      · obtain ⟨a, ea⟩ : ∃ a, a = amx (fun i => oV pr n (2 ^ i) i) i := ⟨_, rfl⟩
        have al' : a < i := by rw [ea]; exact amx_lt _ _ h1
        obtain ⟨z, z8, z1, z2⟩ := sv g e70 a (by omega)
        rw [← ea]
        by_cases cc : oV pr n (2 ^ a) a < oV pr n (2 ^ i) i
        · have I' := ih (i + 1) g (Int32.ofInt (oV pr n (2 ^ i) i)) d6 d7 d8 (by omega) (Or.inr ⟨by omega, by rw [amx_S, ← ea, if_pos cc]⟩) sg e69 e70
          refine V163g  (sg.1.SK S) ?_ ?_ ?_ <;> simp (disch := omega) only [oi_l, oi_n, z_nI, nIA, nIM, nIS, nIlt, nIle, nIeq, nIC, vpI, Nat.add_sub_cancel, Nat.not_le, Nat.not_lt, Nat.not_lt_zero, Nat.le_refl, not_true_eq_false, not_false_eq_true, false_imp_iff, true_imp_iff, forall_const, implies_true, Nat.reduceEqDiff, Nat.reduceLeDiff, Nat.reduceLT, nShl, y, mxZ1 (show (-2147483648 : Int) ≤ oV pr n (2 ^ a) a by omega) cc (show oV pr n (2 ^ i) i < 2147483648 by omega), show ¬ n ≤ i by omega] <;> first | omega | exact I'
        · have I' := ih (i + 1) g (Int32.ofInt (oV pr n (2 ^ a) a)) d6 d7 d8 (by omega) (Or.inr ⟨by omega, by rw [amx_S, ← ea, if_neg cc]⟩) sg e69 e70
          refine V163g  (sg.1.SK S) ?_ ?_ ?_ <;> simp (disch := omega) only [oi_l, oi_n, z_nI, nIA, nIM, nIS, nIlt, nIle, nIeq, nIC, vpI, Nat.add_sub_cancel, Nat.not_le, Nat.not_lt, Nat.not_lt_zero, Nat.le_refl, not_true_eq_false, not_false_eq_true, false_imp_iff, true_imp_iff, forall_const, implies_true, Nat.reduceEqDiff, Nat.reduceLeDiff, Nat.reduceLT, nShl, y, mxZ2 (show (-2147483648 : Int) ≤ oV pr n (2 ^ i) i by omega) cc (show oV pr n (2 ^ a) a < 2147483648 by omega), show ¬ n ≤ i by omega] <;> first | omega | exact I'
  have D : ∀ s (g : pm_H) d5 d6 d7 d8, s < 2 ^ n → Sq [62, 69, 70] h g → (∀ i j, i < n → j < n → zI g 69 (8 * i + j) = Int32.ofInt (pr i j)) → (∀ s' i, s < s' → s' < 2 ^ n → i < n → s'.testBit i = true → zI g 70 (8 * s' + i) = Int32.ofInt (oV pr n s' i)) →
      WP 163 110 [some (.ref 35), some (.int (nI c)), some (.int (nI n)), some (.int (nI (2 ^ n - 1))), some (.int (nI s)), d5, d6, d7, d8] [] g Q := by
    intro s
    induction s with
    | zero =>
      intro g d5 d6 d7 d8 hs sg e69 e70
      have G' := G n 0 g (Int32.ofInt (-1000000)) d6 d7 d8 (by omega) (Or.inl ⟨rfl, rfl⟩) sg e69 (fun s i h0 => e70 s i h0)
      refine V163d  (sg.1.SK S) ?_ ?_ <;> simp (disch := omega) only [oi_l, oi_n, z_nI, nIA, nIM, nIS, nIlt, nIle, nIeq, nIC, vpI, Nat.add_sub_cancel, Nat.not_le, Nat.not_lt, Nat.not_lt_zero, Nat.le_refl, not_true_eq_false, not_false_eq_true, false_imp_iff, true_imp_iff, forall_const, implies_true, Nat.reduceEqDiff, Nat.reduceLeDiff, Nat.reduceLT] <;> first | omega | exact G'
    | succ s ih =>
      intro g d5 d6 d7 d8 hs sg e69 e70
      have s8 : s + 1 < 256 := by omega
      have E : ∀ m i (g : pm_H) d6 d7 d8, i + m = n → Sq [62, 69, 70] h g → (∀ i j, i < n → j < n → zI g 69 (8 * i + j) = Int32.ofInt (pr i j)) → (∀ s' i, s + 1 < s' → s' < 2 ^ n → i < n → s'.testBit i = true → zI g 70 (8 * s' + i) = Int32.ofInt (oV pr n s' i)) → (∀ i', i' < i → (s + 1).testBit i' = true → zI g 70 (8 * (s + 1) + i') = Int32.ofInt (oV pr n (s + 1) i')) →
          WP 163 118 [some (.ref 35), some (.int (nI c)), some (.int (nI n)), some (.int (nI (2 ^ n - 1))), some (.int (nI (s + 1))), some (.int (nI i)), d6, d7, d8] [] g Q := by
        intro m
        induction m with
        | zero =>
          intro i g d6 d7 d8 hi sg e69 e70 f
          obtain rfl : i = n := by omega
          have I' := ih g (some (.int (nI i))) d6 d7 d8 (by omega) sg e69 (fun s' i' h1 h2 h3 h4 => by
            by_cases e : s' = s + 1
            · rw [e] at h4 ⊢; exact f i' h3 h4
            · exact e70 s' i' (by omega) h2 h3 h4)
          have em1 : nI (s + 1) + Int32.ofInt (-1) = nI s := by rw [nI_p]; exact zI_q s
          refine V163e  (sg.1.SK S) ?_ ?_ ?_ ?_ <;> simp (disch := omega) only [oi_l, oi_n, z_nI, nIA, nIM, nIS, nIlt, nIle, nIeq, nIC, vpI, Nat.add_sub_cancel, Nat.not_le, Nat.not_lt, Nat.not_lt_zero, Nat.le_refl, not_true_eq_false, not_false_eq_true, false_imp_iff, true_imp_iff, forall_const, implies_true, Nat.reduceEqDiff, Nat.reduceLeDiff, Nat.reduceLT, em1] <;> first | omega | exact I'
        | succ m ihm =>
          intro i g d6 d7 d8 hi sg e69 e70 f
          cases hb : (s + 1).testBit i with
          | false =>
            have I' := ihm (i + 1) g d6 d7 d8 (by omega) sg e69 e70 (fun i' h1 h2 => by
              by_cases e : i' = i
              · rw [e, hb] at h2; cases h2
              · exact f i' (by omega) h2)
            refine V163e  (sg.1.SK S) ?_ ?_ ?_ ?_ <;> simp (disch := omega) only [oi_l, oi_n, z_nI, nIA, nIM, nIS, nIlt, nIle, nIeq, nIC, vpI, Nat.add_sub_cancel, Nat.not_le, Nat.not_lt, Nat.not_lt_zero, Nat.le_refl, not_true_eq_false, not_false_eq_true, false_imp_iff, true_imp_iff, forall_const, implies_true, Nat.reduceEqDiff, Nat.reduceLeDiff, Nat.reduceLT, nShr, hb, show ¬ n ≤ i by omega, ↓reduceIte, Bool.false_eq_true] <;> first | omega | exact I'
          | true =>
            have ov := oV_eq (pr := pr) (last := i) (show 0 < s + 1 by omega) hs
            have e70' : ∀ j, j < n → (s + 1).testBit j = false → zI g 70 (8 * ((s + 1) ||| 2 ^ j) + j) = Int32.ofInt (oV pr n ((s + 1) ||| 2 ^ j) j) := fun j hj hb' => e70 _ j (by have := or_gt hb'; omega) (or_lt hs hj) hj (by rw [Nat.testBit_or, Nat.testBit_two_pow_self, Bool.or_true])
            have F : ∀ m' j mo d8, j + m' = n → (am2 (fun j => !(s + 1).testBit j) (oF pr n (s + 1) i) j = none → mo = (if s + 1 = 2 ^ n - 1 then Int32.ofInt 0 else Int32.ofInt (-1000000))) → (∀ b, am2 (fun j => !(s + 1).testBit j) (oF pr n (s + 1) i) j = some b → mo = Int32.ofInt (oF pr n (s + 1) i b)) →
                WP 163 155 [some (.ref 35), some (.int (nI c)), some (.int (nI n)), some (.int (nI (2 ^ n - 1))), some (.int (nI (s + 1))), some (.int (nI i)), some (.int mo), some (.int (nI j)), d8] [] g Q := by
              intro m'
              induction m' with
              | zero =>
                intro j mo d8 hj h1 h2
                obtain rfl : j = n := by omega
                have em : mo = Int32.ofInt (oV pr j (s + 1) i) := by
                  rw [ov]
                  cases ho : oN pr j (s + 1) i with
                  | some b => exact h2 b ho
                  | none =>
                    have full : s + 1 = 2 ^ j - 1 := by
                      apply Nat.eq_of_testBit_eq
                      intro t
                      rw [Nat.testBit_two_pow_sub_one]
                      by_cases ht : t < j
                      · rw [decide_eq_true ht]
                        simpa only [Bool.not_eq_false'] using am2_n ho t ht
                      · rw [decide_eq_false ht]
                        exact Nat.testBit_lt_two_pow (Nat.lt_of_lt_of_le hs (Nat.pow_le_pow_right (by decide) (by omega)))
                    rw [h1 ho, if_pos full]; rfl
                have I' := ihm (i + 1) (yI g 70 (8 * (s + 1) + i) mo) (some (.int mo)) (some (.int (nI j))) d8 (by omega) (sg.I 70 _ _ (by decide) (by decide)) (by simp only [zI_yI, Nat.reduceEqDiff, if_false]; exact e69) (fun s' i' q1 q2 q3 q4 => by
                  simp only [zI_yI, va_upA, if_true]
                  rw [if_neg (by omega)]; exact e70 s' i' q1 q2 q3 q4) (fun i' q1 q2 => by
                  simp only [zI_yI, va_upA, if_true]
                  by_cases e : i' = i
                  · rw [e, if_pos rfl, em]
                  · rw [if_neg (by omega)]; exact f i' (by omega) q2)
                refine V163f  (sg.1.SK S) ?_ ?_ ?_ ?_ ?_ ?_ <;> simp (disch := omega) only [oi_l, oi_n, z_nI, nIA, nIM, nIS, nIlt, nIle, nIeq, nIC, vpI, Nat.add_sub_cancel, Nat.not_le, Nat.not_lt, Nat.not_lt_zero, Nat.le_refl, not_true_eq_false, not_false_eq_true, false_imp_iff, true_imp_iff, forall_const, implies_true, Nat.reduceEqDiff, Nat.reduceLeDiff, Nat.reduceLT] <;> first | omega | exact I'
              | succ m' ihf =>
                intro j mo d8 hj h1 h2
                cases hbj : (s + 1).testBit j with
                | true =>
                  have I' := ihf (j + 1) mo d8 (by omega) (by rw [am2, if_neg (by rw [hbj]; decide)]; exact h1) (by rw [am2, if_neg (by rw [hbj]; decide)]; exact h2)
                  refine V163f  (sg.1.SK S) ?_ ?_ ?_ ?_ ?_ ?_ <;> simp (disch := omega) only [oi_l, oi_n, z_nI, nIA, nIM, nIS, nIlt, nIle, nIeq, nIC, vpI, Nat.add_sub_cancel, Nat.not_le, Nat.not_lt, Nat.not_lt_zero, Nat.le_refl, not_true_eq_false, not_false_eq_true, false_imp_iff, true_imp_iff, forall_const, implies_true, Nat.reduceEqDiff, Nat.reduceLeDiff, Nat.reduceLT, nShr, hbj, show ¬ n ≤ j by omega, ↓reduceIte] <;> first | omega | exact I'
                | false =>
                  have pk : (!(s + 1).testBit j) = true := by rw [hbj]; rfl
                  have y1 := e69 i j (by omega) (by omega)
                  have y2 := e70' j (by omega) hbj
                  have o8 := or8 hn8 hs (show j < n by omega)
                  have ef : pr i j + oV pr n ((s + 1) ||| 2 ^ j) j = oF pr n (s + 1) i j := rfl
                  have b1 := oF_b hn8 hp hs (show i < n by omega) (show j < n by omega)
                  cases ha : am2 (fun j => !(s + 1).testBit j) (oF pr n (s + 1) i) j with
                  | none =>
                    have nf : ¬ s + 1 = 2 ^ n - 1 := fun e => by
                      have := congrArg (fun x => x.testBit j) e
                      simp only [Nat.testBit_two_pow_sub_one, hbj, decide_eq_true (show j < n by omega)] at this
                      cases this
                    have em := h1 ha
                    rw [if_neg nf] at em
                    subst em
                    have I' := ihf (j + 1) (Int32.ofInt (oF pr n (s + 1) i j)) d8 (by omega) (by rw [am2, if_pos pk, ha]; intro q; cases q) (fun b hb' => by rw [am2, if_pos pk, ha] at hb'; cases hb'; rfl)
                    refine V163f  (sg.1.SK S) ?_ ?_ ?_ ?_ ?_ ?_ <;> simp (disch := omega) only [oi_l, oi_n, z_nI, nIA, nIM, nIS, nIlt, nIle, nIeq, nIC, vpI, Nat.add_sub_cancel, Nat.not_le, Nat.not_lt, Nat.not_lt_zero, Nat.le_refl, not_true_eq_false, not_false_eq_true, false_imp_iff, true_imp_iff, forall_const, implies_true, Nat.reduceEqDiff, Nat.reduceLeDiff, Nat.reduceLT, nShr, nShl, nOr, hbj, y1, y2, zADD, ef, mxZ1 (show (-2147483648 : Int) ≤ -1000000 by decide) (show (-1000000 : Int) < oF pr n (s + 1) i j by omega) (show oF pr n (s + 1) i j < 2147483648 by omega), show ¬ n ≤ j by omega, ↓reduceIte, Bool.false_eq_true] <;> first | omega | exact I'
                  | some b =>
                    have em := h2 b ha
                    subst em
                    obtain ⟨b3, b4⟩ := am2_p ha
                    have b2 := oF_b hn8 hp hs (show i < n by omega) (show b < n by omega)
                    by_cases cc : oF pr n (s + 1) i b < oF pr n (s + 1) i j
                    · have I' := ihf (j + 1) (Int32.ofInt (oF pr n (s + 1) i j)) d8 (by omega) (by rw [am2, if_pos pk, ha]; simp only [if_pos cc]; intro q; cases q) (fun b' hb' => by rw [am2, if_pos pk, ha] at hb'; simp only [if_pos cc] at hb'; cases hb'; rfl)
                      refine V163f  (sg.1.SK S) ?_ ?_ ?_ ?_ ?_ ?_ <;> simp (disch := omega) only [oi_l, oi_n, z_nI, nIA, nIM, nIS, nIlt, nIle, nIeq, nIC, vpI, Nat.add_sub_cancel, Nat.not_le, Nat.not_lt, Nat.not_lt_zero, Nat.le_refl, not_true_eq_false, not_false_eq_true, false_imp_iff, true_imp_iff, forall_const, implies_true, Nat.reduceEqDiff, Nat.reduceLeDiff, Nat.reduceLT, nShr, nShl, nOr, hbj, y1, y2, zADD, ef, mxZ1 (show (-2147483648 : Int) ≤ oF pr n (s + 1) i b by omega) cc (show oF pr n (s + 1) i j < 2147483648 by omega), show ¬ n ≤ j by omega, ↓reduceIte, Bool.false_eq_true] <;> first | omega | exact I'
                    · have I' := ihf (j + 1) (Int32.ofInt (oF pr n (s + 1) i b)) d8 (by omega) (by rw [am2, if_pos pk, ha]; simp only [if_neg cc]; intro q; cases q) (fun b' hb' => by rw [am2, if_pos pk, ha] at hb'; simp only [if_neg cc] at hb'; cases hb'; rfl)
                      refine V163f  (sg.1.SK S) ?_ ?_ ?_ ?_ ?_ ?_ <;> simp (disch := omega) only [oi_l, oi_n, z_nI, nIA, nIM, nIS, nIlt, nIle, nIeq, nIC, vpI, Nat.add_sub_cancel, Nat.not_le, Nat.not_lt, Nat.not_lt_zero, Nat.le_refl, not_true_eq_false, not_false_eq_true, false_imp_iff, true_imp_iff, forall_const, implies_true, Nat.reduceEqDiff, Nat.reduceLeDiff, Nat.reduceLT, nShr, nShl, nOr, hbj, y1, y2, zADD, ef, mxZ2 (show (-2147483648 : Int) ≤ oF pr n (s + 1) i j by omega) cc (show oF pr n (s + 1) i b < 2147483648 by omega), show ¬ n ≤ j by omega, ↓reduceIte, Bool.false_eq_true] <;> first | omega | exact I'
            by_cases cf : s + 1 = 2 ^ n - 1
            · have F' := F n 0 (Int32.ofInt 0) d8 (by omega) (fun _ => (if_pos cf).symm) (fun b q => by cases q)
              refine V163e  (sg.1.SK S) ?_ ?_ ?_ ?_ <;> simp (disch := omega) only [oi_l, oi_n, z_nI, nIA, nIM, nIS, nIlt, nIle, nIeq, nIC, vpI, Nat.add_sub_cancel, Nat.not_le, Nat.not_lt, Nat.not_lt_zero, Nat.le_refl, not_true_eq_false, not_false_eq_true, false_imp_iff, true_imp_iff, forall_const, implies_true, Nat.reduceEqDiff, Nat.reduceLeDiff, Nat.reduceLT, nShr, hb, eq_true cf, show ¬ n ≤ i by omega, ↓reduceIte] <;> first | omega | exact F'
            · have F' := F n 0 (Int32.ofInt (-1000000)) d8 (by omega) (fun _ => (if_neg cf).symm) (fun b q => by cases q)
              refine V163e  (sg.1.SK S) ?_ ?_ ?_ ?_ <;> simp (disch := omega) only [oi_l, oi_n, z_nI, nIA, nIM, nIS, nIlt, nIle, nIeq, nIC, vpI, Nat.add_sub_cancel, Nat.not_le, Nat.not_lt, Nat.not_lt_zero, Nat.le_refl, not_true_eq_false, not_false_eq_true, false_imp_iff, true_imp_iff, forall_const, implies_true, Nat.reduceEqDiff, Nat.reduceLeDiff, Nat.reduceLT, nShr, hb, cf, show ¬ n ≤ i by omega, ↓reduceIte] <;> first | omega | exact F'
      have E' := E n 0 g d6 d7 d8 (by omega) sg e69 e70 (fun i hi => absurd hi (Nat.not_lt_zero _))
      refine V163d  (sg.1.SK S) ?_ ?_ <;> simp (disch := omega) only [oi_l, oi_n, z_nI, nIA, nIM, nIS, nIlt, nIle, nIeq, nIC, vpI, Nat.add_sub_cancel, Nat.not_le, Nat.not_lt, Nat.not_lt_zero, Nat.le_refl, not_true_eq_false, not_false_eq_true, false_imp_iff, true_imp_iff, forall_const, implies_true, Nat.reduceEqDiff, Nat.reduceLeDiff, Nat.reduceLT, Nat.le_zero, Nat.succ_ne_zero] <;> first | omega | exact E'
  have A : ∀ m i (g : pm_H) d4 d5 d6 d7 d8, i + m = n → Sq [62, 69, 70] h g → (∀ i' j, i' < i → j < n → zI g 69 (8 * i' + j) = Int32.ofInt (pr i' j)) → WP 163 46 [some (.ref 35), some (.int (nI c)), some (.int (nI n)), some (.int (nI i)), d4, d5, d6, d7, d8] [] g Q := by
    intro m
    induction m with
    | zero =>
      intro i g d4 d5 d6 d7 d8 hi sg f
      obtain rfl : i = n := by omega
      have D' := D (2 ^ i - 1) g d5 d6 d7 d8 (by omega) sg f (fun s' i' h1 h2 => by omega)
      refine V163a  (sg.1.SK S) ?_ ?_ <;> simp (disch := omega) only [oi_l, oi_n, z_nI, nIA, nIM, nIS, nIlt, nIle, nIeq, nIC, vpI, Nat.add_sub_cancel, Nat.not_le, Nat.not_lt, Nat.not_lt_zero, Nat.le_refl, not_true_eq_false, not_false_eq_true, false_imp_iff, true_imp_iff, forall_const, implies_true, Nat.reduceEqDiff, Nat.reduceLeDiff, Nat.reduceLT, nShl] <;> first | omega | exact D'
    | succ m ih =>
      intro i g d4 d5 d6 d7 d8 hi sg f
      have M : ∀ m' j (g : pm_H), j + m' = n → Sq [62, 69, 70] h g → (∀ i' j, i' < i → j < n → zI g 69 (8 * i' + j) = Int32.ofInt (pr i' j)) → (∀ j', j' < j → zI g 69 (8 * i + j') = Int32.ofInt (pr i j')) → WP 163 54 [some (.ref 35), some (.int (nI c)), some (.int (nI n)), some (.int (nI i)), some (.int (nI j)), d5, d6, d7, d8] [] g Q := by
        intro m'
        induction m' with
        | zero =>
          intro j g hj sg f1 f2
          obtain rfl : j = n := by omega
          have I' := ih (i + 1) g (some (.int (nI j))) d5 d6 d7 d8 (by omega) sg (fun i' j' h1 h2 => by
            by_cases e : i' = i
            · rw [e]; exact f2 j' h2
            · exact f1 i' j' (by omega) h2)
          refine V163b  (sg.1.SK S) ?_ ?_ <;> simp (disch := omega) only [oi_l, oi_n, z_nI, nIA, nIM, nIS, nIlt, nIle, nIeq, nIC, vpI, Nat.add_sub_cancel, Nat.not_le, Nat.not_lt, Nat.not_lt_zero, Nat.le_refl, not_true_eq_false, not_false_eq_true, false_imp_iff, true_imp_iff, forall_const, implies_true, Nat.reduceEqDiff, Nat.reduceLeDiff, Nat.reduceLT] <;> first | omega | exact I'
        | succ m' ih' =>
          intro j g hj sg f1 f2
          have Mg := MBg g sg
          obtain ⟨m1, m2, m3⟩ := Mg.2.2.2 c hc
          rw [← hn] at m3
          obtain ⟨o1, o2, o3⟩ := m3 i (by omega)
          obtain ⟨o1', o2', o3'⟩ := m3 j (by omega)
          refine V163b  (sg.1.SK S) ?_ ?_ <;> simp (disch := omega) only [oi_l, oi_n, z_nI, nIA, nIM, nIS, nIlt, nIle, nIeq, nIC, vpI, Nat.add_sub_cancel, Nat.not_le, Nat.not_lt, Nat.not_lt_zero, Nat.le_refl, not_true_eq_false, not_false_eq_true, false_imp_iff, true_imp_iff, forall_const, implies_true, Nat.reduceEqDiff, Nat.reduceLeDiff, Nat.reduceLT, show ¬ n ≤ j by omega] <;> (try omega)
          refine c156 (p := ptL B c i) (q := ptL B c j) (sg.1.SK S) bo Mg (by omega) (by omega) o1 o2 o3 o1' o2' o3' (u4 i (by omega)) (u4 j (by omega)) (fun g2 s2 e0 e1 => ?_)
          have s3 := sg.m s2
          refine V163c  (s3.1.SK S) ?_ ?_ <;> simp (disch := omega) only [oi_l, oi_n, z_nI, nIA, nIM, nIS, nIlt, nIle, nIeq, nIC, vpI, Nat.add_sub_cancel, Nat.not_le, Nat.not_lt, Nat.not_lt_zero, Nat.le_refl, not_true_eq_false, not_false_eq_true, false_imp_iff, true_imp_iff, forall_const, implies_true, Nat.reduceEqDiff, Nat.reduceLeDiff, Nat.reduceLT] <;> (try omega)
          refine ih' (j + 1) _ (by omega) (s3.I 69 _ _ (by decide) (by decide)) (fun i' j' h1 h2 => ?_) (fun j' h1 => ?_)
          · simp only [zI_yI, va_upA, if_true]
            rw [if_neg (by omega), s2.1.1 69 (by decide)]; exact f1 i' j' h1 h2
          · simp only [zI_yI, va_upA, if_true]
            by_cases e : j' = j
            · rw [e, if_pos rfl, epr]; rfl
            · rw [if_neg (by omega), s2.1.1 69 (by decide)]; exact f2 j' (by omega)
      have M' := M n 0 g (by omega) sg f (fun j' h1 => absurd h1 (Nat.not_lt_zero _))
      refine V163a  (sg.1.SK S) ?_ ?_ <;> simp (disch := omega) only [oi_l, oi_n, z_nI, nIA, nIM, nIS, nIlt, nIle, nIeq, nIC, vpI, Nat.add_sub_cancel, Nat.not_le, Nat.not_lt, Nat.not_lt_zero, Nat.le_refl, not_true_eq_false, not_false_eq_true, false_imp_iff, true_imp_iff, forall_const, implies_true, Nat.reduceEqDiff, Nat.reduceLeDiff, Nat.reduceLT, show ¬ n ≤ i by omega] <;> first | omega | exact M'
  exact A n 0 h d4 d5 d6 d7 d8 (by omega) Sq.rf (fun i' j h1 => absurd h1 (Nat.not_lt_zero _))

theorem V173 {h : pm_H} {Q : Option Value → pm_H → Prop} {x1 : Int32} {x2 : Int32} {d3 : Option Value} {d4 : Option Value} {d5 : Option Value} (S : SK h) (k3 : (x1 < 0) → Q (some (.int (Int32.ofInt (-1)))) (yI (yI (yI h 35 1 (Int32.ofInt 0)) 35 0 (Int32.ofInt 0)) 35 0 (Int32.ofInt 1))) (k6 : (¬ x1 < 0) → ((zI h 35 16) ≤ x1) → Q (some (.int (Int32.ofInt (-1)))) (yI (yI (yI h 35 1 (Int32.ofInt 0)) 35 0 (Int32.ofInt 0)) 35 0 (Int32.ofInt 1))) (k10 : (¬ x1 < 0) → (¬ (zI h 35 16) ≤ x1) → (x2 < 0) → Q (some (.int (Int32.ofInt (-1)))) (yI (yI (yI h 35 1 (Int32.ofInt 0)) 35 0 (Int32.ofInt 0)) 35 0 (Int32.ofInt 2))) (k13 : (¬ x1 < 0) → (¬ (zI h 35 16) ≤ x1) → (¬ x2 < 0) → ((Int32.ofInt 8) ≤ x2) → Q (some (.int (Int32.ofInt (-1)))) (yI (yI (yI h 35 1 (Int32.ofInt 0)) 35 0 (Int32.ofInt 0)) 35 0 (Int32.ofInt 2))) (k15 : (¬ x1 < 0) → (¬ (zI h 35 16) ≤ x1) → (¬ x2 < 0) → (¬ (Int32.ofInt 8) ≤ x2) → WP 173 45 [some (.ref 35), some (.int x1), some (.int x2), some (.int (Int32.ofInt 0)), some (.int ((Int32.ofInt 12) * x1)), d5] [] (yI (yI h 35 1 (Int32.ofInt 0)) 35 0 (Int32.ofInt 0)) Q) : WP 173 0 [some (.ref 35), some (.int x1), some (.int x2), d3, d4, d5] [] h Q :=
  B173_0 (S.T 35) (B152_0 (fun c1 => B152_16 (B152_17 oi0 (B173_15 (fun q => absurd (by decide) q) (fun _ => B173_18 (S.T 35) (B123_0 (S.T 35) (B173_23 (k3 c1))))))) (fun c1 => B152_4 (S.T 35) (fun c4 => B152_16 (B152_17 oi0 (B173_15 (fun q => absurd (by decide) q) (fun _ => B173_18 (S.T 35) (B123_0 (S.T 35) (B173_23 (k6 c1 c4))))))) (fun c4 => B152_12 (B152_17 oi1 (B173_15 (fun _ => B173_24 (B166_0 (fun c8 => B166_14 (B166_15 oi0 (B173_28 (fun q => absurd (by decide) q) (fun _ => B173_31 (S.T 35) (B123_0 (S.T 35) (B173_36 (k10 c1 c4 c8))))))) (fun c8 => B166_4 (fun c11 => B166_14 (B166_15 oi0 (B173_28 (fun q => absurd (by decide) q) (fun _ => B173_31 (S.T 35) (B123_0 (S.T 35) (B173_36 (k13 c1 c4 c8 c11))))))) (fun c11 => B166_10 (B166_15 oi1 (B173_28 (fun _ => B173_37 (k15 c1 c4 c8 c11)) (fun q => absurd q (by decide)))))))) (fun q => absurd q (by decide)))))))
theorem V173L {h : pm_H} {Q : Option Value → pm_H → Prop} {d5 : Option Value} {c : Nat} {co : Nat} {n : Nat} {p : Nat} (S : SK h) (g1 : vp_in (nI c) 6) (k5 : ((((Int32.ofInt 12) * (nI c)) + (zI h 40 ((nI c)).toNatClampNeg)) ≤ (nI p)) → (¬ (nI n) = 0) → ((nI n) ≤ (Int32.ofInt 8)) → WP 173 126 [some (.ref 35), some (.int (nI c)), some (.int (nI co)), some (.int (nI n)), some (.int (Int32.ofInt 1)), d5] [] h Q) (k6 : ((((Int32.ofInt 12) * (nI c)) + (zI h 40 ((nI c)).toNatClampNeg)) ≤ (nI p)) → (¬ (nI n) = 0) → (¬ (nI n) ≤ (Int32.ofInt 8)) → Q (some (.int (Int32.ofInt (-1)))) (yI h 35 0 (Int32.ofInt 7))) (k7 : ((((Int32.ofInt 12) * (nI c)) + (zI h 40 ((nI c)).toNatClampNeg)) ≤ (nI p)) → ((nI n) = 0) → Q (some (.int (Int32.ofInt (-1)))) (yI h 35 0 (Int32.ofInt 5))) (g8 : (¬ (((Int32.ofInt 12) * (nI c)) + (zI h 40 ((nI c)).toNatClampNeg)) ≤ (nI p)) → vp_in (nI p) 72) (k9 : (¬ (((Int32.ofInt 12) * (nI c)) + (zI h 40 ((nI c)).toNatClampNeg)) ≤ (nI p)) → WP 167 0 [some (.ref 35), some (.int (zI h 41 ((nI p)).toNatClampNeg)), some (.int (nI co)), none, none] [] h (fun v1 h1 => WP 173 73 [some (.ref 35), some (.int (nI c)), some (.int (nI co)), some (.int (nI n)), some (.int (nI p)), d5] (v1.toList ++ []) h1 Q)) : WP 173 45 [some (.ref 35), some (.int (nI c)), some (.int (nI co)), some (.int (nI n)), some (.int (nI p)), d5] [] h Q :=
  B173_45 (S.T 35) (S.R 35 22) ⟨(S.T 40), (S.bd 40 g1)⟩ (fun c2 => B173_100 (fun c3 => B173_110 (fun c4 => B173_123 (k5 c2 c3 c4)) (fun c4 => B173_116 (S.T 35) (B123_0 (S.T 35) (B173_122 (k6 c2 c3 c4))))) (fun c3 => B173_104 (S.T 35) (B123_0 (S.T 35) (B173_109 (k7 c2 c3))))) (fun c2 => B173_61 (S.T 35) (S.R 35 23) ⟨(S.T 41), (S.bd 41 (g8 c2))⟩ (k9 c2))
theorem V173r {h : pm_H} {Q : Option Value → pm_H → Prop} {y : Int32} {d5 : Option Value} {c : Nat} {co : Nat} {n : Nat} {p : Nat} (S : SK h) (g2 : (¬ y = 0) → vp_in (nI n) 12) (k3 : (¬ y = 0) → WP 173 45 [some (.ref 35), some (.int (nI c)), some (.int (nI co)), some (.int ((nI n) + (Int32.ofInt 1))), some (.int ((nI p) + (Int32.ofInt 1))), some (.int y)] [] (yI h 72 ((nI n)).toNatClampNeg y) Q) (k4 : (y = 0) → WP 173 45 [some (.ref 35), some (.int (nI c)), some (.int (nI co)), some (.int (nI n)), some (.int ((nI p) + (Int32.ofInt 1))), some (.int y)] [] h Q) : WP 173 73 [some (.ref 35), some (.int (nI c)), some (.int (nI co)), some (.int (nI n)), some (.int (nI p)), d5] [.int y] h Q :=
  B173_73 (fun c1 => B173_83 (S.T 35) (S.R 35 59) ⟨(S.T 72), (S.bd 72 (g2 c1))⟩ (B173_94 (k3 c1))) (fun c1 => B173_80 (B173_94 (k4 c1)))
theorem V173M {h : pm_H} {Q : Option Value → pm_H → Prop} {d5 : Option Value} {c : Nat} {co : Nat} {n : Nat} {mo : Nat} (S : SK h) (k2 : ((zI h 35 39) < (nI mo)) → Q (some (.int (Int32.ofInt (-1)))) (yI h 35 0 (Int32.ofInt 6))) (k3 : (¬ (zI h 35 39) < (nI mo)) → WP 172 0 [some (.ref 35), some (.int (nI n)), some (.int (nI co)), some (.int (nI mo)), none, none, none] [] h (fun v1 h1 => WP 173 143 [some (.ref 35), some (.int (nI c)), some (.int (nI co)), some (.int (nI n)), some (.int (nI mo)), d5] (v1.toList ++ []) h1 Q)) : WP 173 126 [some (.ref 35), some (.int (nI c)), some (.int (nI co)), some (.int (nI n)), some (.int (nI mo)), d5] [] h Q :=
  B173_126 (S.T 35) (fun c1 => B173_192 (S.T 35) (B123_0 (S.T 35) (B173_198 (k2 c1)))) (fun c1 => B173_135 (S.T 35) (k3 c1))
theorem V173s {h : pm_H} {Q : Option Value → pm_H → Prop} {b : Int32} {d5 : Option Value} {c : Nat} {co : Nat} {n : Nat} {mo : Nat} (S : SK h) (k2 : (¬ b = 0) → WP 173 152 [some (.ref 35), some (.int (nI c)), some (.int (nI co)), some (.int (nI n)), some (.int (nI mo)), some (.int (Int32.ofInt 0))] [] h Q) (k3 : (b = 0) → WP 173 126 [some (.ref 35), some (.int (nI c)), some (.int (nI co)), some (.int (nI n)), some (.int ((nI mo) + (Int32.ofInt 1))), d5] [] h Q) : WP 173 143 [some (.ref 35), some (.int (nI c)), some (.int (nI co)), some (.int (nI n)), some (.int (nI mo)), d5] [.int b] h Q :=
  B173_143 (fun c1 => B173_149 (k2 c1)) (fun c1 => B173_146 (B173_186 (k3 c1)))
theorem V173O {h : pm_H} {Q : Option Value → pm_H → Prop} {c : Nat} {co : Nat} {n : Nat} {mo : Nat} {k : Nat} (S : SK h) (k2 : ((nI n) ≤ (nI k)) → Q (some (.int (nI mo))) (yI h 35 49 (nI n))) (g3 : (¬ (nI n) ≤ (nI k)) → vp_in (nI k) 12) (g4 : (¬ (nI n) ≤ (nI k)) → vp_in (nI k) 12) (k5 : (¬ (nI n) ≤ (nI k)) → WP 173 152 [some (.ref 35), some (.int (nI c)), some (.int (nI co)), some (.int (nI n)), some (.int (nI mo)), some (.int ((nI k) + (Int32.ofInt 1)))] [] (yI h 62 ((nI k)).toNatClampNeg (zI h 73 ((nI k)).toNatClampNeg)) Q) : WP 173 152 [some (.ref 35), some (.int (nI c)), some (.int (nI co)), some (.int (nI n)), some (.int (nI mo)), some (.int (nI k))] [] h Q :=
  B173_152 (fun c1 => B173_178 (S.T 35) (k2 c1)) (fun c1 => B173_158 (S.T 35) (S.R 35 48) (S.R 35 60) ⟨(S.T 73), (S.bd 73 (g3 c1))⟩ ⟨(S.T 62), (S.bd 62 (g4 c1))⟩ (k5 c1))
theorem V102 {h : pm_H} {Q : Option Value → pm_H → Prop} {x1 : Int32} {x2 : Int32} {d3 : Option Value} {d4 : Option Value} {d5 : Option Value} {b1 : Nat} (S : SK h) (e2 : zR h 0 2 = some b1) (t3 : zT h b1 = 2) (k4 : WP 16 0 [some (.ref b1), some (.int x1)] [] h (fun v1 h1 => WP 102 8 [some (.ref 0), some (.int x1), some (.int x2), d3, d4, d5] (v1.toList ++ []) h1 Q)) : WP 102 0 [some (.ref 0), some (.int x1), some (.int x2), d3, d4, d5] [] h Q :=
  B102_0 (S.T 0) e2 t3 k4
theorem V102n {h : pm_H} {Q : Option Value → pm_H → Prop} {x1 : Int32} {x2 : Int32} {d3 : Option Value} {d4 : Option Value} {d5 : Option Value} (S : SK h) (k1 : Q (some (.int (Int32.ofInt (-1)))) (yI h 0 0 (Int32.ofInt 1))) : WP 102 8 [some (.ref 0), some (.int x1), some (.int x2), d3, d4, d5] [.null] h Q :=
  B102_8n (B102_13 (S.T 0) (B107_0 (S.T 0) (B102_18 k1)))
theorem V102r {h : pm_H} {Q : Option Value → pm_H → Prop} {x1 : Int32} {x2 : Int32} {q : Nat} {d3 : Option Value} {d4 : Option Value} {d5 : Option Value} (S : SK h) (k3 : (x2 < 0) → Q (some (.int (Int32.ofInt (-1)))) (yI h 0 0 (Int32.ofInt 2))) (k6 : (¬ x2 < 0) → (x2 < (Int32.ofInt 8)) → WP 118 0 [some (.ref 0), some (.ref q), some (.int x2), none, none, none] [] h (fun v1 h1 => WP 102 38 [some (.ref 0), some (.int x1), some (.int x2), some (.ref q), d4, d5] (v1.toList ++ []) h1 Q)) (k8 : (¬ x2 < 0) → (¬ x2 < (Int32.ofInt 8)) → Q (some (.int (Int32.ofInt (-1)))) (yI h 0 0 (Int32.ofInt 2))) : WP 102 8 [some (.ref 0), some (.int x1), some (.int x2), d3, d4, d5] [.ref q] h Q :=
  B102_8 (B102_19 (B110_0 (fun c1 => B110_10 (B110_15 oi1 (B102_23 (fun q => absurd q (by decide)) (fun _ => B102_26 (S.T 0) (B107_0 (S.T 0) (B102_31 (k3 c1))))))) (fun c1 => B110_4 (fun c4 => B110_14 (B110_15 oi0 (B102_23 (fun _ => B102_32 (S.T 0) (k6 c1 c4)) (fun q => absurd (by decide) q)))) (fun c4 => B110_10 (B110_15 oi1 (B102_23 (fun q => absurd q (by decide)) (fun _ => B102_26 (S.T 0) (B107_0 (S.T 0) (B102_31 (k8 c1 c4))))))))))
theorem V102a {h : pm_H} {Q : Option Value → pm_H → Prop} {x1 : Int32} {x2 : Int32} {q : Nat} {pa : Int32} {d4 : Option Value} {d5 : Option Value} (S : SK h) (k3 : (¬ pa = 0) → (pa ≤ (Int32.ofInt 8)) → WP 25 0 [some (.ref 20), some (.int x2), some (.int pa), some (.ref 34), none, none, none] [] h (fun v1 h1 => WP 102 79 [some (.ref 0), some (.int x1), some (.int x2), some (.ref q), some (.int pa), d5] (v1.toList ++ []) h1 Q)) (k4 : (¬ pa = 0) → (¬ pa ≤ (Int32.ofInt 8)) → Q (some (.int (Int32.ofInt (-1)))) (yI h 0 0 (Int32.ofInt 7))) (k5 : (pa = 0) → Q (some (.int (Int32.ofInt (-1)))) (yI h 0 0 (Int32.ofInt 5))) : WP 102 38 [some (.ref 0), some (.int x1), some (.int x2), some (.ref q), d4, d5] [.int pa] h Q :=
  B102_38 (fun c1 => B102_51 (fun c2 => B102_65 (S.T 0) (S.R 0 6) (S.R 0 9) (S.T 20) (k3 c1 c2)) (fun c2 => B102_58 (S.T 0) (B107_0 (S.T 0) (B102_64 (k4 c1 c2))))) (fun c1 => B102_45 (S.T 0) (B107_0 (S.T 0) (B102_50 (k5 c1))))
theorem V102b {h : pm_H} {Q : Option Value → pm_H → Prop} {x1 : Int32} {x2 : Int32} {q : Nat} {pa : Int32} {us : Int32} {d5 : Option Value} (S : SK h) (k2 : (¬ us = (Int32.ofInt (-1))) → Q (some (.int us)) (yI (yI h 0 10 pa) 0 0 (Int32.ofInt 0))) (k3 : (us = (Int32.ofInt (-1))) → Q (some (.int (Int32.ofInt (-1)))) (yI h 0 0 (Int32.ofInt 6))) : WP 102 79 [some (.ref 0), some (.int x1), some (.int x2), some (.ref q), some (.int pa), d5] [.int us] h Q :=
  B102_79 (fun c1 => B102_94 (S.T 0) (B106_0 (S.T 0) (B102_106 (k2 c1)))) (fun c1 => B102_87 (S.T 0) (B107_0 (S.T 0) (B102_93 (k3 c1))))
theorem D_lt {x y : Nat → Nat} {n j : Nat} (hn : n ≤ 8) (hj : j < n) (hx : ∀ p, p < n → x p < 8) (hy : ∀ p, p < n → y p < 8) (ag : ∀ p, p < j → x p = y p) (lt : x j < y j) : su (fq n) (fun p => x p * dg p) 8 < su (fq n) (fun p => y p * dg p) 8 := by
  obtain ⟨c, ec⟩ : ∃ c : Nat → Nat, c = fun p => if p < n then x p else 0 := ⟨_, rfl⟩
  obtain ⟨d, ed⟩ : ∃ d : Nat → Nat, d = fun p => if p < n then y p else 0 := ⟨_, rfl⟩
  have E : ∀ (z c : Nat → Nat), c = (fun p => if p < n then z p else 0) → su (fq n) (fun p => z p * dg p) 8 = c 0 * 2097152 + c 1 * 262144 + c 2 * 32768 + c 3 * 4096 + c 4 * 512 + c 5 * 64 + c 6 * 8 + c 7 := by
    intro z c ec
    have : ∀ m, su (fq n) (fun p => z p * dg p) m = su (fun _ => true) (fun p => c p * dg p) m := fun m => by
      induction m with
      | zero => rfl
      | succ m ih =>
        rw [su, su, ih, fq_e, if_pos rfl, ec]
        by_cases hq : m < n
        · simp only [hq, decide_true, if_true]
        · simp only [hq, decide_false, if_false, Bool.false_eq_true, Nat.zero_mul]
    rw [this 8]
    simp only [su, dg, if_true]
    simp only [Nat.zero_add, Nat.reduceSub, Nat.reducePow, Nat.mul_one]
  rw [E x c ec, E y d ed]
  have cb : ∀ p, c p < 8 := fun p => by
    rw [ec]
    show (if p < n then x p else 0) < 8
    split
    · exact hx p (by assumption)
    · decide
  have db : ∀ p, d p < 8 := fun p => by
    rw [ed]
    show (if p < n then y p else 0) < 8
    split
    · exact hy p (by assumption)
    · decide
  have cd : ∀ p, p < j → c p = d p := fun p hp => by
    rw [ec, ed]
    show (if p < n then x p else 0) = if p < n then y p else 0
    rw [ag p hp]
  have cj : c j < d j := by
    rw [ec, ed]
    show (if j < n then x j else 0) < if j < n then y j else 0
    rw [if_pos hj, if_pos hj]; exact lt
  have c0 := cb 0; have c1 := cb 1; have c2 := cb 2; have c3 := cb 3; have c4 := cb 4; have c5 := cb 5; have c6 := cb 6; have c7 := cb 7
  have d0 := db 0; have d1 := db 1; have d2 := db 2; have d3 := db 3; have d4 := db 4; have d5 := db 5; have d6 := db 6; have d7 := db 7
  have hj8 : j = 0 ∨ j = 1 ∨ j = 2 ∨ j = 3 ∨ j = 4 ∨ j = 5 ∨ j = 6 ∨ j = 7 := by omega
  rcases hj8 with rfl | rfl | rfl | rfl | rfl | rfl | rfl | rfl
  · omega
  · have := cd 0 (by omega); omega
  · have := cd 0 (by omega); have := cd 1 (by omega); omega
  · have := cd 0 (by omega); have := cd 1 (by omega); have := cd 2 (by omega); omega
  · have := cd 0 (by omega); have := cd 1 (by omega); have := cd 2 (by omega); have := cd 3 (by omega); omega
  · have := cd 0 (by omega); have := cd 1 (by omega); have := cd 2 (by omega); have := cd 3 (by omega); have := cd 4 (by omega); omega
  · have := cd 0 (by omega); have := cd 1 (by omega); have := cd 2 (by omega); have := cd 3 (by omega); have := cd 4 (by omega); have := cd 5 (by omega); omega
  · have := cd 0 (by omega); have := cd 1 (by omega); have := cd 2 (by omega); have := cd 3 (by omega); have := cd 4 (by omega); have := cd 5 (by omega); have := cd 6 (by omega); omega
/-- the best dyeing is one -/
theorem dye_one {nd ly : Nat → Nat} {lc : Nat → Bool} {n L : Nat} {a b : Nat → Nat} (hn : n ≤ 8) (hL : L ≤ 6) (va : vld nd ly lc a (fq n) L) (vb : vld nd ly lc b (fq n) L) (ma : cst a (fq n) L ≤ cst b (fq n) L) (mb : nz (uS b (fq n)) L ≤ nz (uS a (fq n)) L) (lb : nz (uS a (fq n)) L ≤ nz (uS b (fq n)) L → ∀ j, j < n → (∀ p, p < j → a p = b p) → ¬ a j < b j) : nz (uS a (fq n)) L = nz (uS b (fq n)) L ∧ ∀ p, p < n → a p = b p := by
  have ha : ∀ p, p < n → a p < 8 := fun p hp => by have := (va.1 p (by omega) (by rw [fq_e]; exact decide_eq_true hp)).1; omega
  have hb : ∀ p, p < n → b p < 8 := fun p hp => by have := (vb.1 p (by omega) (by rw [fq_e]; exact decide_eq_true hp)).1; omega
  have Db : ∀ x : Nat → Nat, (∀ p, p < n → x p < 8) → su (fq n) (fun p => x p * dg p) 8 ≤ 7 * 2396745 := fun x hx => by
    have h1 : su (fq n) (fun p => x p * dg p) 8 ≤ su (fq n) (fun p => 7 * dg p) 8 := by
      have e : su (fq n) (fun p => x p * dg p) 8 = su (fq n) (fun p => if fq n p then x p * dg p else 0) 8 := su_cg (fun p _ => ⟨rfl, fun hq => by rw [if_pos hq]⟩)
      rw [e]
      refine su_mono (fun p hp => ⟨id, ?_⟩)
      by_cases hq : fq n p = true
      · rw [if_pos hq]
        rw [fq_e] at hq
        have := hx p (by simpa using hq)
        exact Nat.mul_le_mul_right _ (by omega)
      · rw [if_neg hq]; exact Nat.zero_le _
    rw [su_mu] at h1
    have := dg_b (q := fq n)
    omega
  have da := Db a ha
  have db := Db b hb
  unfold cst at ma
  have en : nz (uS a (fq n)) L = nz (uS b (fq n)) L := by omega
  refine ⟨en, ?_⟩
  have K : ∀ j, j ≤ n → ∀ p, p < j → a p = b p := by
    intro j
    induction j with
    | zero => intro _ p hp; exact absurd hp (Nat.not_lt_zero _)
    | succ j ih =>
      intro hj p hp
      have ag := ih (by omega)
      by_cases e : p = j
      · subst e
        have h1 := lb (by omega) p (by omega) ag
        by_cases e : a p = b p
        · exact e
        · have := D_lt hn (show p < n by omega) hb ha (fun q hq => (ag q hq).symm) (show b p < a p by omega)
          omega
      · exact ag p (by omega)
  exact K n (Nat.le_refl _)
/-- the model's search for the least number of lots -/
theorem m173M {h : pm_H} {Q : Option Value → pm_H → Prop} {nd ly lcol : Nat → Nat} {c co n L : Nat} {d5 : Option Value} (S : SK h) (hc : c < 6) (hn1 : 1 ≤ n) (hn : n ≤ 8) (hco : co < 8) (hL : L ≤ 6) (hly : ∀ j, j < L → ly j ≤ 1000000) (hcl : ∀ j, j < L → lcol j < 8) (hnd : ∀ p, p < n → nd p ≤ 300000) (eL : zI h 35 39 = nI L) (e55 : ∀ j, j < L → zI h 55 j = nI (lcol j) ∧ zI h 56 j = nI (ly j)) (e72 : ∀ p, p < n → zI h 72 p = nI (nd p))
    (kn : (∀ a, ¬ vld nd ly (fun j => decide (lcol j = co)) a (fq n) L) → ∀ g, Same [73, 74, 75] h g → Q (some (.int (Int32.ofInt (-1)))) (yI g 35 0 (Int32.ofInt 6)))
    (ks : ∀ a, vld nd ly (fun j => decide (lcol j = co)) a (fq n) L → (∀ b, vld nd ly (fun j => decide (lcol j = co)) b (fq n) L → nz (uS a (fq n)) L ≤ nz (uS b (fq n)) L ∧ (nz (uS b (fq n)) L ≤ nz (uS a (fq n)) L → ∀ j, j < n → (∀ p, p < j → b p = a p) → ¬ b j < a j)) → ∀ g, Sq [62, 73, 74, 75] h g → zI g 35 49 = nI n → (∀ p, p < n → zI g 62 p = nI (a p)) → Q (some (.int (nI (nz (uS a (fq n)) L)))) g) :
    WP 173 126 [some (.ref 35), some (.int (nI c)), some (.int (nI co)), some (.int (nI n)), some (.int (nI 1)), d5] [] h Q := by
  have M : ∀ m mo (g : pm_H) d5, mo + m = L + 1 → 1 ≤ mo → Same [73, 74, 75] h g → (∀ b, vld nd ly (fun j => decide (lcol j = co)) b (fq n) L → mo ≤ nz (uS b (fq n)) L) → WP 173 126 [some (.ref 35), some (.int (nI c)), some (.int (nI co)), some (.int (nI n)), some (.int (nI mo)), d5] [] g Q := by
    intro m
    induction m with
    | zero =>
      intro mo g d5 hm h1 sg lo
      have S' := sg.SK S
      have eL' : zI g 35 39 = nI L := by rw [sg.1 35 (by decide)]; exact eL
      have k' := kn (fun a va => by have := lo a va; have := nz_le (uS a (fq n)) L; omega) g sg
      refine V173M  S' ?_ ?_ <;> simp (disch := omega) only [oi_l, oi_n, z_nI, nIA, nIM, nIS, nIlt, nIle, nIeq, nIC, vpI, Nat.add_sub_cancel, Nat.not_le, Nat.not_lt, Nat.not_lt_zero, Nat.le_refl, not_true_eq_false, not_false_eq_true, false_imp_iff, true_imp_iff, forall_const, implies_true, Nat.reduceEqDiff, Nat.reduceLeDiff, Nat.reduceLT, eL', show L < mo by omega] <;> first | omega | exact k'
    | succ m ih =>
      intro mo g d5 hm h1 sg lo
      have S' := sg.SK S
      have eL' : zI g 35 39 = nI L := by rw [sg.1 35 (by decide)]; exact eL
      refine V173M  S' ?_ ?_ <;> simp (disch := omega) only [oi_l, oi_n, z_nI, nIA, nIM, nIS, nIlt, nIle, nIeq, nIC, vpI, Nat.add_sub_cancel, Nat.not_le, Nat.not_lt, Nat.not_lt_zero, Nat.le_refl, not_true_eq_false, not_false_eq_true, false_imp_iff, true_imp_iff, forall_const, implies_true, Nat.reduceEqDiff, Nat.reduceLeDiff, Nat.reduceLT, eL', show ¬ L < mo by omega] <;> (try omega)
      have up0 : ∀ g', Same [73, 74, 75] g g' → Same [73, 74, 75] h g' := fun g' s' => (sg.tr s').sub (by decide)
      have up : ∀ g', Same [73, 74, 75] g g' → Sq [62, 73, 74, 75] h g' := fun g' s' => ⟨(up0 g' s').sub (by decide), fun j h1 h2 h3 => by rw [(up0 g' s').1 35 (by decide)]⟩
      refine c172 S' hn1 hn hco hL (by omega) hly hcl hnd eL' (by rw [sg.1 55 (by decide), sg.1 56 (by decide)]; exact e55) (by rw [sg.1 72 (by decide)]; exact e72) (fun no g2 s2 => ?_) (fun a sa le g2 s2 f => ?_)
      · have I' := ih (mo + 1) g2 d5 (by omega) (by omega) (up0 g2 s2) (fun b vb => by
          have := lo b vb
          by_cases e : nz (uS b (fq n)) L ≤ mo
          · exact absurd ⟨vb, e⟩ (no b)
          · omega)
        refine V173s  ((up g2 s2).1.SK S) ?_ ?_ <;> simp (disch := omega) only [oi_l, oi_n, z_nI, nIA, nIM, nIS, nIlt, nIle, nIeq, nIC, vpI, Nat.add_sub_cancel, Nat.not_le, Nat.not_lt, Nat.not_lt_zero, Nat.le_refl, not_true_eq_false, not_false_eq_true, false_imp_iff, true_imp_iff, forall_const, implies_true, Nat.reduceEqDiff, Nat.reduceLeDiff, Nat.reduceLT] <;> first | omega | exact I'
      · have en : nz (uS a (fq n)) L = mo := by have := lo a sa.1; have := sa.2; omega
        have O : ∀ m k (g3 : pm_H), k + m = n → Sq [62, 73, 74, 75] h g3 → (∀ p, p < n → zI g3 73 p = nI (a p)) → (∀ p, p < k → zI g3 62 p = nI (a p)) → WP 173 152 [some (.ref 35), some (.int (nI c)), some (.int (nI co)), some (.int (nI n)), some (.int (nI mo)), some (.int (nI k))] [] g3 Q := by
          intro m
          induction m with
          | zero =>
            intro k g3 hk s3 f1 f2
            obtain rfl : k = n := by omega
            have k' := ks a sa.1 (fun b vb => ⟨by rw [en]; exact lo b vb, fun hle => le b ⟨vb, by omega⟩⟩) (yI g3 35 49 (nI k)) (s3.O _) (by simp [zI_yI, va_upA]) (fun p hp => by simp only [zI_yI, Nat.reduceEqDiff, if_false]; exact f2 p hp)
            rw [en] at k'
            refine V173O  (s3.1.SK S) ?_ ?_ ?_ ?_ <;> simp (disch := omega) only [oi_l, oi_n, z_nI, nIA, nIM, nIS, nIlt, nIle, nIeq, nIC, vpI, Nat.add_sub_cancel, Nat.not_le, Nat.not_lt, Nat.not_lt_zero, Nat.le_refl, not_true_eq_false, not_false_eq_true, false_imp_iff, true_imp_iff, forall_const, implies_true, Nat.reduceEqDiff, Nat.reduceLeDiff, Nat.reduceLT] <;> first | omega | exact k'
          | succ m ihm =>
            intro k g3 hk s3 f1 f2
            have e := f1 k (by omega)
            refine V173O  (s3.1.SK S) ?_ ?_ ?_ ?_ <;> simp (disch := omega) only [oi_l, oi_n, z_nI, nIA, nIM, nIS, nIlt, nIle, nIeq, nIC, vpI, Nat.add_sub_cancel, Nat.not_le, Nat.not_lt, Nat.not_lt_zero, Nat.le_refl, not_true_eq_false, not_false_eq_true, false_imp_iff, true_imp_iff, forall_const, implies_true, Nat.reduceEqDiff, Nat.reduceLeDiff, Nat.reduceLT, e, show ¬ n ≤ k by omega] <;> (try omega)
            refine ihm (k + 1) _ (by omega) (s3.I 62 _ _ (by decide) (by decide)) (fun p hp => ?_) (fun p hp => ?_)
            · simp only [zI_yI, Nat.reduceEqDiff, if_false]; exact f1 p hp
            · simp only [zI_yI, va_upA, if_true]
              by_cases e' : p = k
              · rw [if_pos e', e']
              · rw [if_neg e']; exact f2 p (by omega)
        have O' := O n 0 g2 (by omega) (up g2 s2) f (fun p hp => absurd hp (Nat.not_lt_zero _))
        refine V173s  ((up g2 s2).1.SK S) ?_ ?_ <;> simp (disch := omega) only [oi_l, oi_n, z_nI, nIA, nIM, nIS, nIlt, nIle, nIeq, nIC, vpI, Nat.add_sub_cancel, Nat.not_le, Nat.not_lt, Nat.not_lt_zero, Nat.le_refl, not_true_eq_false, not_false_eq_true, false_imp_iff, true_imp_iff, forall_const, implies_true, Nat.reduceEqDiff, Nat.reduceLeDiff, Nat.reduceLT] <;> first | omega | exact O'
  exact M L 1 h d5 (by omega) (by omega) Same.rf (fun b vb => by
    have hp := (vb.1 0 (by omega) (by rw [fq_e]; exact decide_eq_true (by omega))).1
    have h1 : 0 < uS b (fq n) (b 0) := su_pos (p := 0) (by omega) (by rw [fq_e]; exact decide_eq_true (by omega)) (by rw [if_pos rfl]; decide)
    have : ∀ j, b 0 < j → 1 ≤ nz (uS b (fq n)) j := fun j => by
      induction j with
      | zero => intro h; omega
      | succ j ih =>
        intro h
        rw [nz]
        by_cases e : b 0 = j
        · rw [← e, if_pos h1]; omega
        · have := ih (by omega); omega
    exact this L hp)

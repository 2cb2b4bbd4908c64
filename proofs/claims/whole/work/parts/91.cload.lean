/-! readBook of the class -/
theorem B32_144n {h : pm_H} {Q : Option Value → pm_H → Prop} {d0 d1 d2 d3 d4 : Option Value} (k : Q (some .null) h) : WP 32 144 [d0, d1, d2, d3, d4] [.null] h Q := WP.rt rfl trivial k
theorem V32 {h : pm_H} {Q : Option Value → pm_H → Prop} {d2 : Option Value} {d3 : Option Value} {d4 : Option Value} {n : Nat} (S : SK h) (k1 : WP 32 8 [some (.ref 1), some (.int (nI n)), d2, d3, d4] [] (yI (yI h 2 2 (mnI (nI n) (zI h 2 1))) 2 3 (Int32.ofInt 0)) Q) : WP 32 0 [some (.ref 1), some (.int (nI n)), d2, d3, d4] [] h Q :=
  B32_0 (S.T 1) (S.R 1 0) (S.T 2) (B64_0 (S.T 2) (k1))
theorem V32a {h : pm_H} {Q : Option Value → pm_H → Prop} {b : Nat} {d2 : Option Value} {d3 : Option Value} {d4 : Option Value} {n : Nat} (S : SK h) (k1 : WP 32 31 [some (.ref 1), some (.int (nI n)), some (.ref b), some (.int (Int32.ofInt 1)), some (.int (Int32.ofInt 0))] [] h Q) : WP 32 25 [some (.ref 1), some (.int (nI n)), d2, d3, d4] [.ref b] h Q :=
  B32_25 (k1)
theorem V32L {h : pm_H} {Q : Option Value → pm_H → Prop} {b : Nat} {mo : Int32} {n : Nat} {k : Nat} (S : SK h) (k2 : ((Int32.ofInt 800) < (nI k)) → WP 32 125 [some (.ref 1), some (.int (nI n)), some (.ref b), some (.int mo), some (.int (nI k))] [] h Q) (k4 : (¬ (Int32.ofInt 800) < (nI k)) → (mo = 0) → WP 32 125 [some (.ref 1), some (.int (nI n)), some (.ref b), some (.int mo), some (.int (nI k))] [] h Q) (k5 : (¬ (Int32.ofInt 800) < (nI k)) → (¬ mo = 0) → WP 66 0 [some (.ref 2), none] [] h (fun v1 h1 => WP 32 50 [some (.ref 1), some (.int (nI n)), some (.ref b), some (.int mo), some (.int (nI k))] (v1.toList ++ []) h1 Q)) : WP 32 31 [some (.ref 1), some (.int (nI n)), some (.ref b), some (.int mo), some (.int (nI k))] [] h Q :=
  B32_31 (fun c1 => k2 c1) (fun c1 => B32_39 (fun c3 => k4 c1 c3) (fun c3 => B32_43 (S.T 1) (S.R 1 0) (S.T 2) (k5 c1 c3)))
theorem V32b {h : pm_H} {Q : Option Value → pm_H → Prop} {b : Nat} {mo : Int32} {n : Nat} {k : Nat} (S : SK h) (k2 : (¬ (zI h 2 4) = 0) → WP 68 0 [some (.ref 2), some (.retAddr 0), none] [] h (fun v1 h1 => WP 32 74 [some (.ref 1), some (.int (nI n)), some (.ref b), some (.int mo), some (.int (nI k))] (v1.toList ++ []) h1 Q)) (k3 : ((zI h 2 4) = 0) → WP 32 31 [some (.ref 1), some (.int (nI n)), some (.ref b), some (.int (Int32.ofInt 0)), some (.int ((nI k) + (Int32.ofInt 1)))] [] h Q) : WP 32 50 [some (.ref 1), some (.int (nI n)), some (.ref b), some (.int mo), some (.int (nI k))] [] h Q :=
  B32_50 (S.T 1) (S.R 1 0) (S.T 2) (fun c1 => B32_65 (S.T 1) (S.R 1 0) (S.T 2) (k2 c1)) (fun c1 => B32_60 (B32_119 (k3 c1)))
theorem V32f {h : pm_H} {Q : Option Value → pm_H → Prop} {b : Nat} {mo : Int32} {z : Int32} {n : Nat} {k : Nat} (S : SK h) (k2 : (z = 0) → WP 32 93 [some (.ref 1), some (.int (nI n)), some (.ref b), some (.int mo), some (.int (nI k))] [] h Q) (t3 : (¬ z = 0) → zT h b = 2) (k5 : (¬ z = 0) → (¬ (zI h b 3) = 0) → WP 32 93 [some (.ref 1), some (.int (nI n)), some (.ref b), some (.int mo), some (.int (nI k))] [] h Q) (k6 : (¬ z = 0) → ((zI h b 3) = 0) → WP 33 0 [some (.ref 1), some (.ref b), none] [] h (fun v1 h1 => WP 32 89 [some (.ref 1), some (.int (nI n)), some (.ref b), some (.int mo), some (.int (nI k))] (v1.toList ++ []) h1 Q)) : WP 32 74 [some (.ref 1), some (.int (nI n)), some (.ref b), some (.int mo), some (.int (nI k))] [.int z] h Q :=
  B32_74 (fun c1 => k2 c1) (fun c1 => B32_77 (t3 c1) (fun c4 => k5 c1 c4) (fun c4 => B32_84 (S.T 1) (k6 c1 c4)))
theorem V32g {h : pm_H} {Q : Option Value → pm_H → Prop} {b : Nat} {mo : Int32} {n : Nat} {k : Nat} (S : SK h) (k1 : WP 68 0 [some (.ref 2), some (.retAddr 1), none] [] h (fun v1 h1 => WP 32 102 [some (.ref 1), some (.int (nI n)), some (.ref b), some (.int mo), some (.int (nI k))] (v1.toList ++ []) h1 Q)) : WP 32 93 [some (.ref 1), some (.int (nI n)), some (.ref b), some (.int mo), some (.int (nI k))] [] h Q :=
  B32_93 (S.T 1) (S.R 1 0) (S.T 2) k1
theorem V32h {h : pm_H} {Q : Option Value → pm_H → Prop} {b : Nat} {mo : Int32} {z : Int32} {n : Nat} {k : Nat} (S : SK h) (k3 : (z = 0) → (¬ (zI h 2 4) = (Int32.ofInt 4)) → WP 32 31 [some (.ref 1), some (.int (nI n)), some (.ref b), some (.int (Int32.ofInt 0)), some (.int ((nI k) + (Int32.ofInt 1)))] [] (yI (yI h 1 1 (Int32.ofInt 2)) 1 2 (zI h 2 5)) Q) (k4 : (z = 0) → ((zI h 2 4) = (Int32.ofInt 4)) → WP 32 31 [some (.ref 1), some (.int (nI n)), some (.ref b), some (.int (Int32.ofInt 0)), some (.int ((nI k) + (Int32.ofInt 1)))] [] (yI (yI h 1 1 (Int32.ofInt 1)) 1 2 (zI h 2 5)) Q) (k5 : (¬ z = 0) → WP 37 0 [some (.ref 1), some (.ref b), none, none] [] h (fun v1 h1 => WP 32 110 [some (.ref 1), some (.int (nI n)), some (.ref b), some (.int mo), some (.int (nI k))] (v1.toList ++ []) h1 Q)) : WP 32 102 [some (.ref 1), some (.int (nI n)), some (.ref b), some (.int mo), some (.int (nI k))] [.int z] h Q :=
  B32_102 (fun c1 => B32_114 (S.T 1) (B43_0 (S.T 1) (S.R 1 0) (S.T 2) (fun c2 => B43_16 (B43_17 (S.T 1) (S.R 1 0) (S.T 2) (S.T 1) (B45_0 (S.T 1) oi0 (B43_27 oi0 (B32_118 (B32_119 (k3 c1 c2))))))) (fun c2 => B43_12 (B43_17 (S.T 1) (S.R 1 0) (S.T 2) (S.T 1) (B45_0 (S.T 1) oi0 (B43_27 oi0 (B32_118 (B32_119 (k4 c1 c2))))))))) (fun c1 => B32_105 (S.T 1) (k5 c1))
theorem V32c {h : pm_H} {Q : Option Value → pm_H → Prop} {b : Nat} {mo : Int32} {z : Int32} {n : Nat} {k : Nat} (S : SK h) (k1 : WP 32 31 [some (.ref 1), some (.int (nI n)), some (.ref b), some (.int z), some (.int ((nI k) + (Int32.ofInt 1)))] [] h Q) : WP 32 89 [some (.ref 1), some (.int (nI n)), some (.ref b), some (.int mo), some (.int (nI k))] [.int z] h Q :=
  B32_89 (B32_119 (k1))
theorem V32d {h : pm_H} {Q : Option Value → pm_H → Prop} {b : Nat} {mo : Int32} {z : Int32} {n : Nat} {k : Nat} (S : SK h) (k1 : WP 32 31 [some (.ref 1), some (.int (nI n)), some (.ref b), some (.int z), some (.int ((nI k) + (Int32.ofInt 1)))] [] h Q) : WP 32 110 [some (.ref 1), some (.int (nI n)), some (.ref b), some (.int mo), some (.int (nI k))] [.int z] h Q :=
  B32_110 (B32_119 (k1))
theorem V32e {h : pm_H} {Q : Option Value → pm_H → Prop} {b : Nat} {mo : Int32} {n : Nat} {k : Nat} (S : SK h) (k2 : (¬ (zI h 1 1) = 0) → Q (some (.null)) (yI h 2 1 (Int32.ofInt 0))) (k3 : ((zI h 1 1) = 0) → Q (some (.ref b)) (yI h 2 1 (Int32.ofInt 0))) : WP 32 125 [some (.ref 1), some (.int (nI n)), some (.ref b), some (.int mo), some (.int (nI k))] [] h Q :=
  B32_125 (S.T 1) (S.R 1 0) (S.T 2) (B65_0 (S.T 2) (B32_132 (S.T 1) (fun c1 => B32_143 (B32_144n (k2 c1))) (fun c1 => B32_139 (B32_144 (k3 c1)))))
section KND
variable {ch : Nat → Nat} {n : Nat}
theorem pcs_k : ∀ f i l st has k p, n < i + f → i ≤ n → pcs ch n f i l st has = .inl (k, p) → 1 ≤ k ∧ k ≤ 7 := by
  intro f
  induction f with
  | zero => intro i l st has k p h1 h2; omega
  | succ f ih =>
    intro i l st has k p h1 hi e
    have nb := tnx_b (ch := ch) hi
    have pb := tpl_b (ch := ch) hi
    have nb2 := tnx_b (ch := ch) nb.2.1
    have pb2 := tpl_b (ch := ch) nb.2.1
    have c1 := cs1_b (ch := ch) (n := n) (i := i)
    have c2 := cs1_b (ch := ch) (n := n) (i := tnx ch n i)
    by_cases cA : tkd ch n i = 1 ∧ tvl ch n i < 8
    · rw [pcs_A cA] at e
      cases q : p35 ch n i l with
      | inl x =>
        obtain ⟨a, b⟩ := x
        rw [q] at e
        injection e with e
        injection e with e1 e2
        unfold p35 at q
        split at q
        · injection q with q; injection q with q1 q2; omega
        · split at q
          · injection q with q; injection q with q1 q2; omega
          · split at q
            · injection q with q; injection q with q1 q2; omega
            · cases q
      | inr x =>
        obtain ⟨a, b⟩ := x
        rw [q] at e
        obtain ⟨r1, r2, r3, r4⟩ := p35_r q
        have := nb.2.2 (by omega)
        exact ih a b st true k p (by omega) (by omega) e
    · by_cases cB : tkd ch n i = 2 ∨ (tkd ch n i = 1 ∧ tvl ch n i = 28)
      · rw [pcs_B cA cB] at e
        cases q : p36 ch n i st with
        | some x =>
          obtain ⟨a, b⟩ := x
          rw [q] at e
          injection e with e
          injection e with e1 e2
          unfold p36 at q
          split at q
          · injection q with q; injection q with q1 q2; omega
          · split at q
            · injection q with q; injection q with q1 q2; omega
            · split at q
              · injection q with q; injection q with q1 q2; omega
              · cases q
        | none =>
          rw [q] at e
          have := nb.2.2 (by omega)
          exact ih _ _ _ false k p (by omega) (by omega) e
      · rw [pcs_C cA cB] at e
        cases st with
        | nil =>
          simp only at e
          by_cases c : (tkd ch n i = 3 ∧ tvl ch n i = 59) ∧ has = true
          · rw [if_pos c] at e; cases e
          · rw [if_neg c] at e
            injection e with e; injection e with e1 e2; omega
        | cons x st' =>
          obtain ⟨a, t⟩ := x
          simp only at e
          by_cases c : (tkd ch n i = 3 ∧ tvl ch n i = 41) ∧ has = true
          · rw [if_pos c] at e
            by_cases big : t ≠ 0 ∧ 400 < a + (l.length - a) * t
            · rw [if_pos big] at e
              injection e with e; injection e with e1 e2; omega
            · rw [if_neg big] at e
              have := nb.2.2 (by omega)
              exact ih _ _ _ true k p (by omega) (by omega) e
          · rw [if_neg c] at e
            injection e with e; injection e with e1 e2; omega
theorem rdS_k {S : List BkS} {i k p : Nat} (hi : i ≤ n) (e : rdS ch n S i (tnx ch n i) (tnx ch n (tnx ch n i)) = .inl (k, p)) : 1 ≤ k ∧ k ≤ 7 := by
  have nb := tnx_b (ch := ch) hi
  have nb2 := tnx_b (ch := ch) nb.2.1
  have nb3 := tnx_b (ch := ch) nb2.2.1
  have c1 := cs1_b (ch := ch) (n := n) (i := tnx ch n i)
  have c2 := cs1_b (ch := ch) (n := n) (i := tnx ch n (tnx ch n i))
  unfold rdS at e
  split at e
  · injection e with e; injection e with e1 e2; omega
  split at e
  · injection e with e; injection e with e1 e2; omega
  split at e
  · injection e with e; injection e with e1 e2; omega
  split at e
  · injection e with e; injection e with e1 e2; omega
  cases q : pcs ch n (n + 1) (tnx ch n (tnx ch n (tnx ch n i))) [] [] false with
  | inl x =>
    obtain ⟨a, b⟩ := x
    rw [q] at e
    injection e with e; injection e with e1 e2
    have := pcs_k _ _ _ _ _ _ _ (by omega) nb3.2.1 q
    omega
  | inr x => obtain ⟨a, b⟩ := x; rw [q] at e; cases e
theorem prp_k {S : List BkS} {t : Bool} {j m k p : Nat} (e : prp ch n S t j m = .inl (k, p)) : 1 ≤ k ∧ k ≤ 7 := by
  have c1 := cs1_b (ch := ch) (n := n) (i := j)
  have c2 := cs1_b (ch := ch) (n := n) (i := tnx ch n m)
  unfold prp at e
  split at e
  · injection e with e; injection e with e1 e2; omega
  cases q : fnd (nmS S) (tvl ch n j) S.length with
  | none =>
    rw [q] at e
    injection e with e; injection e with e1 e2; omega
  | some s =>
    rw [q] at e
    simp only at e
    split at e
    · split at e
      · injection e with e; injection e with e1 e2; omega
      · split at e
        · injection e with e; injection e with e1 e2; omega
        · cases e
    · cases e
theorem prt_k {S : List BkS} : ∀ f i ps k p, n < i + f → i ≤ n → prt ch n S f i ps = .inl (k, p) → 1 ≤ k ∧ k ≤ 7 := by
  intro f
  induction f with
  | zero => intro i ps k p h1 h2; omega
  | succ f ih =>
    intro i ps k p h1 hi e
    have jb := jt_b (ch := ch) hi
    have nb := tnx_b (ch := ch) jb.2
    have pb := tpl_b (ch := ch) jb.2
    have c1 := cs1_b (ch := ch) (n := n) (i := i)
    rw [prt] at e
    by_cases a1 : ¬ (isN ch n i ∨ isT ch n i)
    · rw [if_pos a1] at e
      injection e with e; injection e with e1 e2; omega
    rw [if_neg a1] at e
    by_cases a2 : 12 ≤ ps.length
    · rw [if_pos a2] at e
      injection e with e; injection e with e1 e2; omega
    rw [if_neg a2] at e
    cases q : prp ch n S (decide (isT ch n i)) (jt ch n i) (tnx ch n (jt ch n i)) with
    | inl x =>
      obtain ⟨a, b⟩ := x
      rw [q] at e
      injection e with e; injection e with e1 e2
      have := prp_k q
      omega
    | inr x =>
      obtain ⟨m, p'⟩ := x
      rw [q] at e
      simp only at e
      obtain ⟨r1, r2, r3, r4, r5⟩ := prp_ok nb.2.1 q
      have nbm := tnx_b (ch := ch) r2
      have pbm := tpl_b (ch := ch) r2
      have := nb.2.2 (by rw [r5.1]; decide)
      have cm := cs1_b (ch := ch) (n := n) (i := m)
      split at e
      · cases e
      · split at e
        · exact ih _ _ _ _ (by omega) nbm.2.1 e
        · injection e with e; injection e with e1 e2; omega
theorem rdC_k {S : List BkS} {C : List BkC} {i k p : Nat} (hi : i ≤ n) (e : rdC ch n S C i (tnx ch n i) (tnx ch n (tnx ch n i)) = .inl (k, p)) : 1 ≤ k ∧ k ≤ 7 := by
  have nb := tnx_b (ch := ch) hi
  have nb2 := tnx_b (ch := ch) nb.2.1
  have nb3 := tnx_b (ch := ch) nb2.2.1
  have c1 := cs1_b (ch := ch) (n := n) (i := tnx ch n i)
  have c2 := cs1_b (ch := ch) (n := n) (i := tnx ch n (tnx ch n i))
  unfold rdC at e
  split at e
  · injection e with e; injection e with e1 e2; omega
  split at e
  · injection e with e; injection e with e1 e2; omega
  split at e
  · injection e with e; injection e with e1 e2; omega
  split at e
  · injection e with e; injection e with e1 e2; omega
  cases q : prt ch n S (n + 1) (tnx ch n (tnx ch n (tnx ch n i))) [] with
  | inl x =>
    obtain ⟨a, b⟩ := x
    rw [q] at e
    injection e with e; injection e with e1 e2
    have := prt_k _ _ _ _ _ (by omega) nb3.2.1 q
    omega
  | inr x => obtain ⟨a, b⟩ := x; rw [q] at e; cases e
end KND
section BOOK
variable {h : pm_H} {Q : Option Value → pm_H → Prop} {ch : Nat → Nat} {n b : Nat}
/-- new Book(), behind new -/
theorem c12 (K : SK h) (k0 : ∀ g, Fr h g → zn g = zn h + 3 → zk g = zk h + 22 → atB g (zn h) ([], []) → zR g (zn h) 0 = some (zn h + 1) → zR g (zn h) 2 = some (zn h + 2) → Q none g) : WP 12 0 [some (.ref (zn h))] [] (yN h 2 0 4) Q := by
  have z76 := K.2.2.2
  have e12 : (Int32.ofInt 12).toNatClampNeg = 12 := rfl
  have e6 : (Int32.ofInt 6).toNatClampNeg = 6 := rfl
  have n1 : zn h ≠ zn h + 1 := by omega
  have n2 : zn h ≠ zn h + 2 := by omega
  have n3 : zn h + 1 ≠ zn h + 2 := by omega
  refine B12_0 (by decide) (by rw [zT_yN, zn_yN, if_neg n1, zT_yN, if_pos rfl]) ?_
  rw [e12, zn_yN]
  have f1 : Fr h (yR (yN (yN h 2 0 4) 103 12 12) (zn h) 0 (some (zn h + 1))) := ((Fr.rf.N _ _ _).N _ _ _).R _ _ _ (Nat.le_refl _)
  have T1 : zT (yR (yN (yN h 2 0 4) 103 12 12) (zn h) 0 (some (zn h + 1))) (zn h) = 2 := by rw [zT_yR, zT_yN, zn_yN, if_neg n1, zT_yN, if_pos rfl]
  have S1 : zT (yR (yN (yN h 2 0 4) 103 12 12) (zn h) 0 (some (zn h + 1))) (zn h + 1) = 103 := by rw [zT_yR, zT_yN, zn_yN, if_pos rfl]
  have N1 : zN (yR (yN (yN h 2 0 4) 103 12 12) (zn h) 0 (some (zn h + 1))) (zn h + 1) = 12 := by rw [zN_yR, zN_yN, zn_yN, if_pos rfl]
  have R1 : zR (yR (yN (yN h 2 0 4) 103 12 12) (zn h) 0 (some (zn h + 1))) (zn h) 0 = some (zn h + 1) := by rw [zR_yR, if_pos rfl, va_upA, if_pos rfl]
  have Z1 : zn (yR (yN (yN h 2 0 4) 103 12 12) (zn h) 0 (some (zn h + 1))) = zn h + 2 := by rw [zn_yR, zn_yN, zn_yN]
  have K1 : zk (yR (yN (yN h 2 0 4) 103 12 12) (zn h) 0 (some (zn h + 1))) = zk h + 16 := by rw [zk_yR, zk_yN, zk_yN]
  obtain ⟨g1, eg1⟩ : ∃ g1, g1 = yR (yN (yN h 2 0 4) 103 12 12) (zn h) 0 (some (zn h + 1)) := ⟨_, rfl⟩
  rw [← eg1] at f1 T1 S1 N1 R1 Z1 K1 ⊢
  refine B12_13 T1 (by decide) (by rw [zT_yN, zn_yI, Z1, if_neg n2, zT_yI]; exact T1) ?_
  rw [e6, Z1]
  refine B12_27 (by rw [zT_yR, zT_yN, zn_yI, Z1, if_neg n2, zT_yI]; exact T1) ?_
  have f2 : Fr h (yI (yR (yN (yI g1 (zn h) 1 (Int32.ofInt 0)) 104 6 6) (zn h) 2 (some (zn h + 2))) (zn h) 3 (Int32.ofInt 0)) := (((f1.I _ _ _ (Nat.le_refl _)).N _ _ _).R _ _ _ (Nat.le_refl _)).I _ _ _ (Nat.le_refl _)
  have zg : zn (yI (yR (yN (yI g1 (zn h) 1 (Int32.ofInt 0)) 104 6 6) (zn h) 2 (some (zn h + 2))) (zn h) 3 (Int32.ofInt 0)) = zn h + 3 := by rw [zn_yI, zn_yR, zn_yN, zn_yI, Z1]
  have r0 : zR (yI (yR (yN (yI g1 (zn h) 1 (Int32.ofInt 0)) 104 6 6) (zn h) 2 (some (zn h + 2))) (zn h) 3 (Int32.ofInt 0)) (zn h) 0 = some (zn h + 1) := by rw [zR_yI, zR_yR, if_pos rfl, va_upA, if_neg (by decide), zR_yN, zn_yI, Z1, if_neg n2, zR_yI]; exact R1
  have r2 : zR (yI (yR (yN (yI g1 (zn h) 1 (Int32.ofInt 0)) 104 6 6) (zn h) 2 (some (zn h + 2))) (zn h) 3 (Int32.ofInt 0)) (zn h) 2 = some (zn h + 2) := by rw [zR_yI, zR_yR, if_pos rfl, va_upA, if_pos rfl]
  refine k0 _ f2 zg (by rw [zk_yI, zk_yR, zk_yN, zk_yI, K1]) ?_ r0 r2
  refine ⟨⟨Or.inr (Or.inr (Or.inr z76)), by rw [zg]; omega⟩, ?_, ?_, ?_, zn h + 1, zn h + 2, r0, ⟨Or.inr (Or.inr (Or.inr (by omega))), by rw [zg]; omega⟩, ?_, ?_, r2, ⟨Or.inr (Or.inr (Or.inr (by omega))), by rw [zg]; omega⟩, ?_, ?_, fun s hs => absurd hs (Nat.not_lt_zero _), fun s hs => absurd hs (Nat.not_lt_zero _)⟩
  · rw [zT_yI, zT_yR, zT_yN, zn_yI, Z1, if_neg n2, zT_yI]; exact T1
  · rw [zI_yI, if_pos rfl, va_upA, if_neg (by decide), zI_yR, zI_yN, zn_yI, Z1, if_neg n2, zI_yI, if_pos rfl, va_upA, if_pos rfl]; rfl
  · rw [zI_yI, if_pos rfl, va_upA, if_pos rfl]; rfl
  · rw [zT_yI, zT_yR, zT_yN, zn_yI, Z1, if_neg n3, zT_yI]; exact S1
  · rw [zN_yI, zN_yR, zN_yN, zn_yI, Z1, if_neg n3, zN_yI]; exact N1
  · rw [zT_yI, zT_yR, zT_yN, zn_yI, Z1, if_pos rfl]
  · rw [zN_yI, zN_yR, zN_yN, zn_yI, Z1, if_pos rfl]
theorem nmS_p {S : List BkS} {x : BkS} {k : Nat} : nmS (S ++ [x]) k = if k < S.length then nmS S k else if k = S.length then x.1 else 0 := by
  unfold nmS
  by_cases h1 : k < S.length
  · rw [if_pos h1, gEl (show k < (S ++ [x]).length by simp; omega), List.getElem_append_left h1, gEl h1]
  · rw [if_neg h1]
    by_cases h2 : k = S.length
    · subst h2
      rw [if_pos rfl, gEl (by simp)]
      simp
    · rw [if_neg h2, gD_none (by simp; omega)]
theorem nmC_p {S : List BkC} {x : BkC} {k : Nat} : nmC (S ++ [x]) k = if k < S.length then nmC S k else if k = S.length then x.1 else 0 := by
  unfold nmC
  by_cases h1 : k < S.length
  · rw [if_pos h1, gEl (show k < (S ++ [x]).length by simp; omega), List.getElem_append_left h1, gEl h1]
  · rw [if_neg h1]
    by_cases h2 : k = S.length
    · subst h2
      rw [if_pos rfl, gEl (by simp)]
      simp
    · rw [if_neg h2, gD_none (by simp; omega)]
theorem dif_p {f g : Nat → Nat} {m v : Nat} (d : dif f m) (no : ∀ k, k < m → ¬ f k = v) (eg : ∀ k, g k = if k < m then f k else if k = m then v else 0) : dif g (m + 1) := by
  intro i j hi hj e
  rw [eg, eg] at e
  by_cases h1 : i < m
  · rw [if_pos h1] at e
    by_cases h2 : j < m
    · rw [if_pos h2] at e; exact d i j h1 h2 e
    · rw [if_neg h2, if_pos (by omega)] at e; exact absurd e (no i h1)
  · rw [if_neg h1, if_pos (by omega)] at e
    by_cases h2 : j < m
    · rw [if_pos h2] at e; exact absurd e.symm (no j h2)
    · omega
theorem gD8' {l : List Nat} (h : ∀ j, l.getD j 0 < 8) : ∀ c ∈ l, c < 8 := fun c hc => by
  obtain ⟨k, hk, e⟩ := List.getElem_of_mem hc
  have := h k
  rw [gEl hk, e] at this
  exact this
theorem bk_pS {S : List BkS} {C : List BkC} {s : BkS} (bo : bk_ok (S, C)) (h12 : S.length < 12) (hs : s.1 < 26 ∧ 1 ≤ s.2.length ∧ s.2.length ≤ 400 ∧ ∀ c ∈ s.2, c < 8) : bk_ok (S ++ [s], C) := by
  obtain ⟨b1, b2, b3, b4⟩ := bo
  have len : (S ++ [s]).length = S.length + 1 := by simp
  refine ⟨by show (S ++ [s]).length ≤ 12; omega, b2, fun x hx => ?_, fun c hc => ?_⟩
  · rcases List.mem_append.mp hx with hx | hx
    · exact b3 x hx
    · rw [List.mem_singleton.mp hx]; exact hs
  · obtain ⟨c1, c2, c3, c4⟩ := b4 c hc
    refine ⟨c1, c2, c3, fun p hp => ?_⟩
    have := c4 p hp
    have h1 : p.1 < S.length := this.1
    exact ⟨by show p.1 < (S ++ [s]).length; omega, this.2⟩
theorem bk_pC {S : List BkS} {C : List BkC} {c : BkC} (bo : bk_ok (S, C)) (h6 : C.length < 6) (hc : c.1 < 26 ∧ 1 ≤ c.2.length ∧ c.2.length ≤ 12 ∧ ∀ p ∈ c.2, p.1 < S.length ∧ p.2.1 ≤ 50) : bk_ok (S, C ++ [c]) := by
  obtain ⟨b1, b2, b3, b4⟩ := bo
  have len : (C ++ [c]).length = C.length + 1 := by simp
  refine ⟨b1, by show (C ++ [c]).length ≤ 6; omega, b3, fun x hx => ?_⟩
  rcases List.mem_append.mp hx with hx | hx
  · exact b4 x hx
  · rw [List.mem_singleton.mp hx]; exact hc
set_option maxHeartbeats 2000000 in
theorem c32L (K : SK h) (b76 : 76 ≤ b) (bz : b + 3 ≤ zn h) (hn : n ≤ 800) (e2 : zI h 2 2 = nI n) (hch : CH h 3 ch n) (e1 : zI h 1 1 = nI 0) :
    ∀ f i k (S : List BkS) (C : List BkC) (g : pm_H), n < i + f → i ≤ n → k ≤ i → Lw b h g → C5 g → zI g 1 = zI h 1 → zI g 2 3 = nI i → atB g b (S, C) → zR g b 0 = some (b + 1) → zR g b 2 = some (b + 2) → bk_ok (S, C) → dif (nmS S) S.length → dif (nmC C) C.length → zn g ≤ zn h + 3 * S.length + 14 * C.length → zk g ≤ zk h + 803 * S.length + 63 * C.length →
      (∀ k p, rdB ch n f i S C = .inl (k, p) → ∀ g, Lw b h g → C5 g → zI g 1 1 = nI k → zI g 1 2 = nI p → zn g ≤ zn h + 120 → zk g ≤ zk h + 10014 → Q (some .null) (yI g 2 1 (nI 0))) →
      (∀ S' C', rdB ch n f i S C = .inr (S', C') → ∀ g, Lw b h g → C5 g → zI g 1 = zI h 1 → atB g b (S', C') → bk_ok (S', C') → zn g ≤ zn h + 120 → zk g ≤ zk h + 10014 → Q (some (.ref b)) (yI g 2 1 (nI 0))) →
      WP 32 31 [some (.ref 1), some (.int (nI n)), some (.ref b), some (.int (nI 1)), some (.int (nI k))] [] g Q := by
  intro f
  induction f with
  | zero => intro i k S C g h1 h2; omega
  | succ f ih =>
    intro i k S C g h1 h2 hk lw c5 g1 f3 hb r0 r2 bo dS dC zg zgk kb k0
    have b1 : S.length ≤ 12 := bo.1
    have b2 : C.length ≤ 6 := bo.2.1
    have nb := tnx_b (ch := ch) h2
    have pb := tpl_b (ch := ch) h2
    have t4 := tk_le (ch := ch) (n := n) (i := i)
    have Kg := lw.SK b76 K
    have hcg : CH g 3 ch n := hch.keep (lw.1 3 (by omega) (by decide))
    have e2g : zI g 2 2 = nI n := by rw [lw.2.2.1 2 (by decide)]; exact e2
    -- the ends
    have EB : ∀ kk p, rdB ch n (f + 1) i S C = .inl (kk, p) → 1 ≤ kk → kk ≤ 7 → ∀ g2, Lw b h g2 → C5 g2 → zI g2 1 1 = nI kk → zI g2 1 2 = nI p → zn g2 ≤ zn h + 120 → zk g2 ≤ zk h + 10014 → WP 32 31 [some (.ref 1), some (.int (nI n)), some (.ref b), some (.int (nI 0)), some (.int (nI (k + 1)))] [] g2 Q := fun kk p e hk1 hk7 g2 l2 c52 f1 f2 z2 zk2 => by
      have k' := kb kk p e g2 l2 c52 f1 f2 z2 zk2
      have E' : WP 32 125 [some (.ref 1), some (.int (nI n)), some (.ref b), some (.int (nI 0)), some (.int (nI (k + 1)))] [] g2 Q := by
        refine V32e  (l2.SK b76 K) ?_ ?_ <;> simp (disch := omega) only [oi_l, oi_n, z_nI, nIA, nIM, nIS, nIlt, nIle, nIeq, nIC, vpI, Nat.add_sub_cancel, Nat.not_le, Nat.not_lt, Nat.not_lt_zero, Nat.le_refl, not_true_eq_false, not_false_eq_true, false_imp_iff, true_imp_iff, forall_const, implies_true, Nat.reduceEqDiff, Nat.reduceLeDiff, Nat.reduceLT, f1, show ¬ kk = 0 by omega] <;> first | omega | exact k'
      by_cases big : 800 < k + 1
      · refine V32L  (l2.SK b76 K) ?_ ?_ ?_ <;> simp (disch := omega) only [oi_l, oi_n, z_nI, nIA, nIM, nIS, nIlt, nIle, nIeq, nIC, vpI, Nat.add_sub_cancel, Nat.not_le, Nat.not_lt, Nat.not_lt_zero, Nat.le_refl, not_true_eq_false, not_false_eq_true, false_imp_iff, true_imp_iff, forall_const, implies_true, Nat.reduceEqDiff, Nat.reduceLeDiff, Nat.reduceLT, eq_true big] <;> first | omega | exact E'
      · refine V32L  (l2.SK b76 K) ?_ ?_ ?_ <;> simp (disch := omega) only [oi_l, oi_n, z_nI, nIA, nIM, nIS, nIlt, nIle, nIeq, nIC, vpI, Nat.add_sub_cancel, Nat.not_le, Nat.not_lt, Nat.not_lt_zero, Nat.le_refl, not_true_eq_false, not_false_eq_true, false_imp_iff, true_imp_iff, forall_const, implies_true, Nat.reduceEqDiff, Nat.reduceLeDiff, Nat.reduceLT, big] <;> first | omega | exact E'
    refine V32L  Kg ?_ ?_ ?_ <;> simp (disch := omega) only [oi_l, oi_n, z_nI, nIA, nIM, nIS, nIlt, nIle, nIeq, nIC, vpI, Nat.add_sub_cancel, Nat.not_le, Nat.not_lt, Nat.not_lt_zero, Nat.le_refl, not_true_eq_false, not_false_eq_true, false_imp_iff, true_imp_iff, forall_const, implies_true, Nat.reduceEqDiff, Nat.reduceLeDiff, Nat.reduceLT, show ¬ 800 < k by omega] <;> (try omega)
    refine c66 Kg hn h2 e2g f3 hcg (fun g2 t2 x3 x4 x5 x6 => ?_)
    have cr2 : CR g g2 := CR.T t2
    have l2 : Lw b h g2 := lw.tr (Lw.C cr2)
    have K2 := l2.SK b76 K
    have c52 : C5 g2 := by unfold C5; rw [t2.1.1 5 (by decide)]; exact c5
    have y1 : zI g2 1 = zI h 1 := by rw [t2.1.1 1 (by decide)]; exact g1
    have hb2 : atB g2 b (S, C) := hb.keep cr2.D
    have r02 : zR g2 b 0 = some (b + 1) := by rw [t2.1.2.2.2.1]; exact r0
    have r22 : zR g2 b 2 = some (b + 2) := by rw [t2.1.2.2.2.1]; exact r2
    have z2 : zn g2 = zn g := t2.1.2.2.2.2.2.1
    have zk2 : zk g2 = zk g := t2.1.2.2.2.2.2.2
    have hc2 : CH g2 3 ch n := hch.keep (l2.1 3 (by omega) (by decide))
    have e22 : zI g2 2 2 = nI n := by rw [l2.2.2.1 2 (by decide)]; exact e2
    have bz2 : b + 3 ≤ zn g2 := Nat.le_trans bz l2.2.2.2
    by_cases k0' : tkd ch n i = 0
    · have k' := k0 S C (by rw [rdB, if_pos k0']) g2 l2 c52 y1 hb2 bo (by omega) (by omega)
      have f1 : zI g2 1 1 = nI 0 := by rw [y1]; exact e1
      have E' : WP 32 125 [some (.ref 1), some (.int (nI n)), some (.ref b), some (.int (nI 0)), some (.int (nI (k + 1)))] [] g2 Q := by
        refine V32e  K2 ?_ ?_ <;> simp (disch := omega) only [oi_l, oi_n, z_nI, nIA, nIM, nIS, nIlt, nIle, nIeq, nIC, vpI, Nat.add_sub_cancel, Nat.not_le, Nat.not_lt, Nat.not_lt_zero, Nat.le_refl, not_true_eq_false, not_false_eq_true, false_imp_iff, true_imp_iff, forall_const, implies_true, Nat.reduceEqDiff, Nat.reduceLeDiff, Nat.reduceLT, f1] <;> first | omega | exact k'
      have F' : WP 32 31 [some (.ref 1), some (.int (nI n)), some (.ref b), some (.int (nI 0)), some (.int (nI (k + 1)))] [] g2 Q := by
        by_cases big : 800 < k + 1
        · refine V32L  K2 ?_ ?_ ?_ <;> simp (disch := omega) only [oi_l, oi_n, z_nI, nIA, nIM, nIS, nIlt, nIle, nIeq, nIC, vpI, Nat.add_sub_cancel, Nat.not_le, Nat.not_lt, Nat.not_lt_zero, Nat.le_refl, not_true_eq_false, not_false_eq_true, false_imp_iff, true_imp_iff, forall_const, implies_true, Nat.reduceEqDiff, Nat.reduceLeDiff, Nat.reduceLT, eq_true big] <;> first | omega | exact E'
        · refine V32L  K2 ?_ ?_ ?_ <;> simp (disch := omega) only [oi_l, oi_n, z_nI, nIA, nIM, nIS, nIlt, nIle, nIeq, nIC, vpI, Nat.add_sub_cancel, Nat.not_le, Nat.not_lt, Nat.not_lt_zero, Nat.le_refl, not_true_eq_false, not_false_eq_true, false_imp_iff, true_imp_iff, forall_const, implies_true, Nat.reduceEqDiff, Nat.reduceLeDiff, Nat.reduceLT, big] <;> first | omega | exact E'
      rw [k0'] at x4
      refine V32b  K2 ?_ ?_ <;> simp (disch := omega) only [oi_l, oi_n, z_nI, nIA, nIM, nIS, nIlt, nIle, nIeq, nIC, vpI, Nat.add_sub_cancel, Nat.not_le, Nat.not_lt, Nat.not_lt_zero, Nat.le_refl, not_true_eq_false, not_false_eq_true, false_imp_iff, true_imp_iff, forall_const, implies_true, Nat.reduceEqDiff, Nat.reduceLeDiff, Nat.reduceLT, x4] <;> first | omega | exact F'
    have prog := nb.2.2 k0'
    have H68 : ∀ w, w < 3 → ∀ Q' : Option Value → pm_H → Prop, Q' (some (.int (if tkd ch n i = 1 ∧ tvl ch n i = 26 + w then nI 1 else nI 0))) g2 → WP 68 0 [some (.ref 2), some (.retAddr w), none] [] g2 Q' := fun w hw Q' kq => c68t K2 hn ⟨nb.1, nb.2.1⟩ hw ⟨x3, x4, x5, x6⟩ kq
    have tb2 : zT g2 b = 2 := hb2.2.1
    have eb3 : zI g2 b 3 = nI C.length := hb2.2.2.2.1
    by_cases st : (tkd ch n i = 1 ∧ tvl ch n i = 26) ∧ C.length = 0
    · have eC : C = [] := List.length_eq_zero_iff.mp st.2
      subst eC
      have re : ∀ r, rdS ch n S i (tnx ch n i) (tnx ch n (tnx ch n i)) = r → rdB ch n (f + 1) i S [] = match r with | .inl e => .inl e | .inr (j, s) => rdB ch n f j (S ++ [s]) [] := fun r er => by
        rw [rdB, if_neg k0', if_pos st, er]
        rcases r with e | ⟨j, s⟩ <;> rfl
      have A' : WP 33 0 [some (.ref 1), some (.ref b), none] [] g2 (fun v1 h1 => WP 32 89 [some (.ref 1), some (.int (nI n)), some (.ref b), some (.int (nI 1)), some (.int (nI k))] (v1.toList ++ []) h1 Q) := by
        refine c33 K2 b76 (by omega) hb2 r02 r22 b1 (fun s hs => (bo.2.2.1 s hs).1) dS hn h2 e22 ⟨x3, x4, x5, x6⟩ hc2 c52 (fun kk p e g3 l3 c53 f1 f2 z3 zk3 => ?_) (fun j s e g3 l3 c53 z1 z3 hb3 r03 r23 zn3 zk3 s4 s8 => ?_)
        · have kn := rdS_k h2 e
          have E' := EB kk p (by rw [re _ e]) kn.1 kn.2 g3 (l2.tr l3) c53 f1 f2 (by omega) (by omega)
          refine V32c  ((l2.tr l3).SK b76 K) ?_ <;> simp (disch := omega) only [oi_l, oi_n, z_nI, nIA, nIM, nIS, nIlt, nIle, nIeq, nIC, vpI, Nat.add_sub_cancel, Nat.not_le, Nat.not_lt, Nat.not_lt_zero, Nat.le_refl, not_true_eq_false, not_false_eq_true, false_imp_iff, true_imp_iff, forall_const, implies_true, Nat.reduceEqDiff, Nat.reduceLeDiff, Nat.reduceLT] <;> first | omega | exact E'
        · obtain ⟨o1, o2, o3, o4, o5, o6⟩ := rdS_ok h2 k0' e
          have len : (S ++ [s]).length = S.length + 1 := by simp
          have re' := re _ e
          simp only at re'
          have zz : zn g3 ≤ zn h + 3 * (S ++ [s]).length + 14 * ([] : List BkC).length := by
            have l0 : ([] : List BkC).length = 0 := List.length_nil
            omega
          have zzk : zk g3 ≤ zk h + 803 * (S ++ [s]).length + 63 * ([] : List BkC).length := by
            have l0 : ([] : List BkC).length = 0 := List.length_nil
            omega
          have dd : dif (nmS (S ++ [s])) (S ++ [s]).length := by rw [len]; exact dif_p dS o6 (fun k => nmS_p)
          have E' := ih j (k + 1) (S ++ [s]) [] g3 (by omega) o2 (by omega) (l2.tr l3) c53 (by rw [z1]; exact y1) z3 hb3 r03 r23 (bk_pS bo o5 ⟨o3, o4, s4, gD8' s8⟩) dd dC zz zzk (by rw [← re']; exact kb) (by rw [← re']; exact k0)
          refine V32c  ((l2.tr l3).SK b76 K) ?_ <;> simp (disch := omega) only [oi_l, oi_n, z_nI, nIA, nIM, nIS, nIlt, nIle, nIeq, nIC, vpI, Nat.add_sub_cancel, Nat.not_le, Nat.not_lt, Nat.not_lt_zero, Nat.le_refl, not_true_eq_false, not_false_eq_true, false_imp_iff, true_imp_iff, forall_const, implies_true, Nat.reduceEqDiff, Nat.reduceLeDiff, Nat.reduceLT] <;> first | omega | exact E'
      have B' : WP 68 0 [some (.ref 2), some (.retAddr 0), none] [] g2 (fun v1 h1 => WP 32 74 [some (.ref 1), some (.int (nI n)), some (.ref b), some (.int (nI 1)), some (.int (nI k))] (v1.toList ++ []) h1 Q) := H68 0 (by decide) _ (by
        rw [if_pos ⟨st.1.1, st.1.2⟩]
        refine V32f  K2 ?_ ?_ ?_ ?_ <;> simp (disch := omega) only [oi_l, oi_n, z_nI, nIA, nIM, nIS, nIlt, nIle, nIeq, nIC, vpI, Nat.add_sub_cancel, Nat.not_le, Nat.not_lt, Nat.not_lt_zero, Nat.le_refl, not_true_eq_false, not_false_eq_true, false_imp_iff, true_imp_iff, forall_const, implies_true, Nat.reduceEqDiff, Nat.reduceLeDiff, Nat.reduceLT, tb2, eb3, List.length_nil] <;> first | omega | exact A')
      refine V32b  K2 ?_ ?_ <;> simp (disch := omega) only [oi_l, oi_n, z_nI, nIA, nIM, nIS, nIlt, nIle, nIeq, nIC, vpI, Nat.add_sub_cancel, Nat.not_le, Nat.not_lt, Nat.not_lt_zero, Nat.le_refl, not_true_eq_false, not_false_eq_true, false_imp_iff, true_imp_iff, forall_const, implies_true, Nat.reduceEqDiff, Nat.reduceLeDiff, Nat.reduceLT, x4, k0'] <;> first | omega | exact B'
    · have N93 : WP 32 93 [some (.ref 1), some (.int (nI n)), some (.ref b), some (.int (nI 1)), some (.int (nI k))] [] g2 Q → WP 32 50 [some (.ref 1), some (.int (nI n)), some (.ref b), some (.int (nI 1)), some (.int (nI k))] [] g2 Q := by
        intro k93
        have B' : WP 68 0 [some (.ref 2), some (.retAddr 0), none] [] g2 (fun v1 h1 => WP 32 74 [some (.ref 1), some (.int (nI n)), some (.ref b), some (.int (nI 1)), some (.int (nI k))] (v1.toList ++ []) h1 Q) := H68 0 (by decide) _ (by
          by_cases v26 : tkd ch n i = 1 ∧ tvl ch n i = 26
          · have c0 : ¬ C.length = 0 := fun q => st ⟨v26, q⟩
            rw [if_pos ⟨v26.1, v26.2⟩]
            refine V32f  K2 ?_ ?_ ?_ ?_ <;> simp (disch := omega) only [oi_l, oi_n, z_nI, nIA, nIM, nIS, nIlt, nIle, nIeq, nIC, vpI, Nat.add_sub_cancel, Nat.not_le, Nat.not_lt, Nat.not_lt_zero, Nat.le_refl, not_true_eq_false, not_false_eq_true, false_imp_iff, true_imp_iff, forall_const, implies_true, Nat.reduceEqDiff, Nat.reduceLeDiff, Nat.reduceLT, tb2, eb3, c0] <;> first | omega | exact k93
          · rw [if_neg (fun q => v26 ⟨q.1, q.2⟩)]
            refine V32f  K2 ?_ ?_ ?_ ?_ <;> simp (disch := omega) only [oi_l, oi_n, z_nI, nIA, nIM, nIS, nIlt, nIle, nIeq, nIC, vpI, Nat.add_sub_cancel, Nat.not_le, Nat.not_lt, Nat.not_lt_zero, Nat.le_refl, not_true_eq_false, not_false_eq_true, false_imp_iff, true_imp_iff, forall_const, implies_true, Nat.reduceEqDiff, Nat.reduceLeDiff, Nat.reduceLT] <;> first | omega | exact k93)
        refine V32b  K2 ?_ ?_ <;> simp (disch := omega) only [oi_l, oi_n, z_nI, nIA, nIM, nIS, nIlt, nIle, nIeq, nIC, vpI, Nat.add_sub_cancel, Nat.not_le, Nat.not_lt, Nat.not_lt_zero, Nat.le_refl, not_true_eq_false, not_false_eq_true, false_imp_iff, true_imp_iff, forall_const, implies_true, Nat.reduceEqDiff, Nat.reduceLeDiff, Nat.reduceLT, x4, k0'] <;> first | omega | exact B'
      by_cases cl : tkd ch n i = 1 ∧ tvl ch n i = 27
      · have re : ∀ r, rdC ch n S C i (tnx ch n i) (tnx ch n (tnx ch n i)) = r → rdB ch n (f + 1) i S C = match r with | .inl e => .inl e | .inr (j, s) => rdB ch n f j S (C ++ [s]) := fun r er => by
          rw [rdB, if_neg k0', if_neg st, if_pos cl, er]
          rcases r with e | ⟨j, s⟩ <;> rfl
        have A' : WP 37 0 [some (.ref 1), some (.ref b), none, none] [] g2 (fun v1 h1 => WP 32 110 [some (.ref 1), some (.int (nI n)), some (.ref b), some (.int (nI 1)), some (.int (nI k))] (v1.toList ++ []) h1 Q) := by
          refine c37 K2 b76 bz2 hb2 r02 r22 b1 (fun s hs => (bo.2.2.1 s hs).1) dS b2 (fun c hc => (bo.2.2.2 c hc).1) dC hn h2 e22 ⟨x3, x4, x5, x6⟩ hc2 c52 (fun kk p e g3 l3 c53 f1 f2 z3 zk3 => ?_) (fun j s e g3 l3 c53 z1 z3 hb3 r03 r23 zn3 zk3 => ?_)
          · have kn := rdC_k h2 e
            have q3 : zn g3 ≤ zn h + 120 ∧ zk g3 ≤ zk h + 10014 := by
              by_cases c6 : C.length < 6
              · rw [if_pos c6] at z3 zk3; omega
              · rw [if_neg c6] at z3 zk3; omega
            have E' := EB kk p (by rw [re _ e]) kn.1 kn.2 g3 (l2.tr l3) c53 f1 f2 q3.1 q3.2
            refine V32d  ((l2.tr l3).SK b76 K) ?_ <;> simp (disch := omega) only [oi_l, oi_n, z_nI, nIA, nIM, nIS, nIlt, nIle, nIeq, nIC, vpI, Nat.add_sub_cancel, Nat.not_le, Nat.not_lt, Nat.not_lt_zero, Nat.le_refl, not_true_eq_false, not_false_eq_true, false_imp_iff, true_imp_iff, forall_const, implies_true, Nat.reduceEqDiff, Nat.reduceLeDiff, Nat.reduceLT] <;> first | omega | exact E'
          · obtain ⟨o1, o2, o3, o4, o5⟩ := rdC_ok h2 k0' e
            have len : (C ++ [s]).length = C.length + 1 := by simp
            have re' := re _ e
            simp only at re'
            have E' := ih j (k + 1) S (C ++ [s]) g3 (by omega) o2 (by omega) (l2.tr l3) c53 (by rw [z1]; exact y1) z3 hb3 r03 r23 (bk_pC bo o4 o3) dS (by rw [len]; exact dif_p dC o5 (fun k => nmC_p)) (by rw [len]; omega) (by rw [len]; omega) (by rw [← re']; exact kb) (by rw [← re']; exact k0)
            refine V32d  ((l2.tr l3).SK b76 K) ?_ <;> simp (disch := omega) only [oi_l, oi_n, z_nI, nIA, nIM, nIS, nIlt, nIle, nIeq, nIC, vpI, Nat.add_sub_cancel, Nat.not_le, Nat.not_lt, Nat.not_lt_zero, Nat.le_refl, not_true_eq_false, not_false_eq_true, false_imp_iff, true_imp_iff, forall_const, implies_true, Nat.reduceEqDiff, Nat.reduceLeDiff, Nat.reduceLT] <;> first | omega | exact E'
        refine N93 (V32g K2 (H68 1 (by decide) _ ?_))
        rw [if_pos ⟨cl.1, cl.2⟩]
        refine V32h  K2 ?_ ?_ ?_ <;> simp (disch := omega) only [oi_l, oi_n, z_nI, nIA, nIM, nIS, nIlt, nIle, nIeq, nIC, vpI, Nat.add_sub_cancel, Nat.not_le, Nat.not_lt, Nat.not_lt_zero, Nat.le_refl, not_true_eq_false, not_false_eq_true, false_imp_iff, true_imp_iff, forall_const, implies_true, Nat.reduceEqDiff, Nat.reduceLeDiff, Nat.reduceLT] <;> first | omega | exact A'
      · have re : rdB ch n (f + 1) i S C = .inl (wrg ch n i) := by rw [rdB, if_neg k0', if_neg st, if_neg cl]
        have F : ∀ kk, kk = cs1 ch n i → WP 32 31 [some (.ref 1), some (.int (nI n)), some (.ref b), some (.int (nI 0)), some (.int (nI (k + 1)))] [] (yI (yI g2 1 1 (nI kk)) 1 2 (nI (tpl ch n i))) Q := fun kk ek => by
          have c1 := cs1_b (ch := ch) (n := n) (i := i)
          exact EB kk (tpl ch n i) (by rw [re, ek]) (by omega) (by omega) _ (l2.tr (Lw.C ((CR.rf.F 1 _).F 2 _))) (by unfold C5; simp only [zI_yI, Nat.reduceEqDiff, if_false]; exact c52) (by simp [zI_yI, va_upA]) (by simp [zI_yI, va_upA]) (by rw [zn_yI, zn_yI]; omega) (by rw [zk_yI, zk_yI]; omega)
        refine N93 (V32g K2 (H68 1 (by decide) _ ?_))
        rw [if_neg (fun q => cl ⟨q.1, q.2⟩)]
        by_cases k4 : tkd ch n i = 4
        · have F' := F 1 (by unfold cs1; rw [if_pos k4])
          rw [k4] at x4
          refine V32h  K2 ?_ ?_ ?_ <;> simp (disch := omega) only [oi_l, oi_n, z_nI, nIA, nIM, nIS, nIlt, nIle, nIeq, nIC, vpI, Nat.add_sub_cancel, Nat.not_le, Nat.not_lt, Nat.not_lt_zero, Nat.le_refl, not_true_eq_false, not_false_eq_true, false_imp_iff, true_imp_iff, forall_const, implies_true, Nat.reduceEqDiff, Nat.reduceLeDiff, Nat.reduceLT, x4, x5] <;> first | omega | exact F'
        · have F' := F 2 (by unfold cs1; rw [if_neg k4])
          refine V32h  K2 ?_ ?_ ?_ <;> simp (disch := omega) only [oi_l, oi_n, z_nI, nIA, nIM, nIS, nIlt, nIle, nIeq, nIC, vpI, Nat.add_sub_cancel, Nat.not_le, Nat.not_lt, Nat.not_lt_zero, Nat.le_refl, not_true_eq_false, not_false_eq_true, false_imp_iff, true_imp_iff, forall_const, implies_true, Nat.reduceEqDiff, Nat.reduceLeDiff, Nat.reduceLT, x4, x5, k4] <;> first | omega | exact F'
end BOOK

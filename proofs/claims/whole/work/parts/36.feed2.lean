def lay20 (f : Nat → Int32) (n : Nat) (x1 x2 x3 x4 x5 : Int32) : Nat → Int32 := lay4 (lay4 (lay4 (lay4 (lay4 f n x1) (n + 4) x2) (n + 8) x3) (n + 12) x4) (n + 16) x5
theorem lay4_lo {f : Nat → Int32} {n j : Nat} {x : Int32} (h : j < n) : lay4 f n x j = f j := by
  unfold lay4
  rw [va_upN _ _ (by omega), va_upN _ _ (by omega), va_upN _ _ (by omega), va_upN _ _ (by omega)]
theorem lay4_eq {f f' : Nat → Int32} {n : Nat} {x : Int32} (h : ∀ j, j < n → f j = f' j ∧ (f j).toInt8.toInt32 = f j) : ∀ j, j < n + 4 → lay4 f n x j = lay4 f' n x j ∧ (lay4 f n x j).toInt8.toInt32 = lay4 f n x j := by
  intro j hj
  by_cases h0 : j < n
  · rw [lay4_lo h0, lay4_lo h0]; exact h j h0
  · unfold lay4
    rcases (by omega : j = n ∨ j = n + 1 ∨ j = n + 2 ∨ j = n + 3) with q | q | q | q <;> subst q <;> simp [va_upA, byt, byt_i8]
theorem lay20_eq {f f' : Nat → Int32} {n : Nat} {x1 x2 x3 x4 x5 : Int32} (h : ∀ j, j < n → f j = f' j ∧ (f j).toInt8.toInt32 = f j) : ∀ j, j < n + 20 → lay20 f n x1 x2 x3 x4 x5 j = lay20 f' n x1 x2 x3 x4 x5 j ∧ (lay20 f n x1 x2 x3 x4 x5 j).toInt8.toInt32 = lay20 f n x1 x2 x3 x4 x5 j :=
  lay4_eq (n := n + 16) (lay4_eq (n := n + 12) (lay4_eq (n := n + 8) (lay4_eq (n := n + 4) (lay4_eq h))))
theorem Same.sub {L M : List Nat} {h g : pm_H} (k : Same L h g) (hL : ∀ a ∈ L, a ∈ M) : Same M h g := ⟨fun a ha => k.1 a (fun q => ha (hL a q)), k.2⟩
section FEED2
variable {h : pm_H} {Q : Option Value → pm_H → Prop} {x1 x2 x3 x4 x5 : Int32}
theorem c86 (S : SK h) {n : Nat} (hn : n ≤ 800) (e : zI h 2 1 = nI n) (k1 : 800 < n + 20 → Q (some (.int (Int32.ofInt (-1)))) h) (k0 : n + 20 ≤ 800 → ∀ g, Same [2, 3] h g → zI g 2 1 = nI (n + 20) → zI g 3 = lay20 (zI h 3) n x1 x2 x3 x4 x5 → Q (some (.int (nI (n + 20)))) g) : WP 86 0 [some (.ref 0), some (.int x1), some (.int x2), some (.int x3), some (.int x4), some (.int x5)] [] h Q := by
  have hN : zN h 3 = 800 := S.N 3
  have e20 : zI h 2 1 + Int32.ofInt 20 = nI (n + 20) := by rw [e]; exact nI_add n 20
  refine B86_0 (S.T 0) (S.R 0 1) (S.T 1) (S.R 1 0) (S.T 2) (B62_0 (S.T 2) (S.R 2 0) (S.al 3) (fun c => ?_) (fun c => B62_15 (B86_17 (k1 ?_))))
  · have hq : n + 20 ≤ 800 := by
      rw [e20, hN] at c
      exact (nI_leI (a := n + 20) (b := 800) (by omega) (by decide)).mp c
    refine B62_17 (S.T 2) (c63 S (n := n) (by omega) e (fun g1 s1 a1 b1 => B62_22 ((s1.SK S).T 2) (c63 (s1.SK S) (n := n + 4) (by omega) a1 (fun g2 s2 a2 b2 => B62_27 ((s2.SK (s1.SK S)).T 2) (c63 (s2.SK (s1.SK S)) (n := n + 8) (by omega) a2 (fun g3 s3 a3 b3 => B62_32 ((s3.SK (s2.SK (s1.SK S))).T 2) (c63 (s3.SK (s2.SK (s1.SK S))) (n := n + 12) (by omega) a3 (fun g4 s4 a4 b4 => B62_38 ((s4.SK (s3.SK (s2.SK (s1.SK S)))).T 2) (c63 (s4.SK (s3.SK (s2.SK (s1.SK S)))) (n := n + 16) (by omega) a4 (fun g5 s5 a5 b5 => B62_44 ((s5.SK (s4.SK (s3.SK (s2.SK (s1.SK S))))).T 2) (B86_17 ?_)))))))))))
    have q := k0 hq g5 ((((s1.tr s2).tr s3).tr s4).tr s5 |>.sub (by decide)) a5 (by rw [b5, b4, b3, b2, b1]; rfl)
    rw [a5]
    exact q
  · rw [e20, hN] at c
    have z : ¬ n + 20 ≤ 800 := fun z => c ((nI_leI (a := n + 20) (b := 800) (by omega) (by decide)).mpr z)
    omega
theorem c143 (S : SK h) {n : Nat} (hn : n ≤ 800) (e : zI h 35 3 = nI n) (k1 : 800 < n + 20 → ∀ g, Same [35, 36] h g → zI g 36 = zI h 36 → (∀ k, k ≠ 1 → zI g 35 k = zI h 35 k) → Q (some (.int (Int32.ofInt (-1)))) g) (k0 : n + 20 ≤ 800 → ∀ g, Same [35, 36] h g → zI g 35 3 = nI (n + 20) → (∀ k, k ≠ 1 → k ≠ 3 → zI g 35 k = zI h 35 k) → zI g 36 = lay20 (zI h 36) n x1 x2 x3 x4 x5 → Q (some (.int (nI (n + 20)))) g) : WP 143 0 [some (.ref 35), some (.int x1), some (.int x2), some (.int x3), some (.int x4), some (.int x5)] [] h Q := by
  have h0 : Same [35, 36] h (yI h 35 1 (Int32.ofInt 0)) := Same.rf.I 35 _ _ (by decide)
  have h1 : zI (yI h 35 1 (Int32.ofInt 0)) 36 = zI h 36 := by simp [zI_yI]
  have h2 : ∀ k, k ≠ 1 → zI (yI h 35 1 (Int32.ofInt 0)) 35 k = zI h 35 k := fun k hk => by simp [zI_yI, va_upA, hk]
  have e' : zI (yI h 35 1 (Int32.ofInt 0)) 35 3 = nI n := by rw [h2 3 (by decide)]; exact e
  have e20 : zI (yI h 35 1 (Int32.ofInt 0)) 35 3 + Int32.ofInt 20 = nI (n + 20) := by rw [e']; exact nI_add n 20
  refine B143_0 (S.T 35) (fun c => ?_) (fun c => B143_18 (k1 ?_ _ h0 h1 h2))
  · have hq : n + 20 ≤ 800 := by
      rw [e20] at c
      exact (nI_leI (a := n + 20) (b := 800) (by omega) (by decide)).mp c
    have S0 := h0.SK S
    clear e20 c
    generalize yI h 35 1 (Int32.ofInt 0) = h9 at *
    refine B143_20 (S0.T 35) (c144 S0 (n := n) (by omega) e' (fun g1 s1 a1 d1 b1 => B143_25 ((s1.SK S0).T 35) (c144 (s1.SK S0) (n := n + 4) (by omega) a1 (fun g2 s2 a2 d2 b2 => B143_30 ((s2.SK (s1.SK S0)).T 35) (c144 (s2.SK (s1.SK S0)) (n := n + 8) (by omega) a2 (fun g3 s3 a3 d3 b3 => B143_35 ((s3.SK (s2.SK (s1.SK S0))).T 35) (c144 (s3.SK (s2.SK (s1.SK S0))) (n := n + 12) (by omega) a3 (fun g4 s4 a4 d4 b4 => B143_41 ((s4.SK (s3.SK (s2.SK (s1.SK S0)))).T 35) (c144 (s4.SK (s3.SK (s2.SK (s1.SK S0)))) (n := n + 16) (by omega) a4 (fun g5 s5 a5 d5 b5 => B143_47 ((s5.SK (s4.SK (s3.SK (s2.SK (s1.SK S0))))).T 35) ?_))))))))))
    have q := k0 hq g5 (((((h0.tr s1).tr s2).tr s3).tr s4).tr s5 |>.sub (by decide)) a5 (fun k k1 k3 => by rw [d5 k k3, d4 k k3, d3 k k3, d2 k k3, d1 k k3, h2 k k1]) (by rw [b5, b4, b3, b2, b1, h1]; rfl)
    rw [a5]
    exact q
  · rw [e20] at c
    have z : ¬ n + 20 ≤ 800 := fun z => c ((nI_leI (a := n + 20) (b := 800) (by omega) (by decide)).mpr z)
    omega
end FEED2

/-! the model's blocksOf -/
theorem V148 {h : pm_H} {Q : Option Value → pm_H → Prop} {d3 : Option Value} {d4 : Option Value} {d5 : Option Value} {s : Nat} {w : Nat} (S : SK h) (k1 : WP 148 5 [some (.ref 35), some (.int (nI s)), some (.int (nI w)), some (.int (Int32.ofInt 0)), some (.int (Int32.ofInt 0)), d5] [] h Q) : WP 148 0 [some (.ref 35), some (.int (nI s)), some (.int (nI w)), d3, d4, d5] [] h Q :=
  B148_0 (k1)
theorem V148L {h : pm_H} {Q : Option Value → pm_H → Prop} {d5 : Option Value} {s : Nat} {w : Nat} {n : Nat} {k : Nat} (S : SK h) (g1 : vp_in (nI s) 12) (g3 : ((zI h 38 ((nI s)).toNatClampNeg) ≤ (nI k)) → vp_in (nI w) 2) (k4 : ((zI h 38 ((nI s)).toNatClampNeg) ≤ (nI k)) → Q none (yI h 65 ((nI w)).toNatClampNeg (nI n))) (g5 : (¬ (zI h 38 ((nI s)).toNatClampNeg) ≤ (nI k)) → vp_in (((Int32.ofInt 400) * (nI s)) + (nI k)) 4800) (g7 : (¬ (zI h 38 ((nI s)).toNatClampNeg) ≤ (nI k)) → ((nI k) = 0) → vp_in (((Int32.ofInt 400) * (nI w)) + (nI n)) 800) (g8 : (¬ (zI h 38 ((nI s)).toNatClampNeg) ≤ (nI k)) → ((nI k) = 0) → vp_in (((Int32.ofInt 400) * (nI w)) + (nI n)) 800) (g9 : (¬ (zI h 38 ((nI s)).toNatClampNeg) ≤ (nI k)) → ((nI k) = 0) → vp_in ((((Int32.ofInt 400) * (nI w)) + ((nI n) + (Int32.ofInt 1))) - (Int32.ofInt 1)) 800) (k10 : (¬ (zI h 38 ((nI s)).toNatClampNeg) ≤ (nI k)) → ((nI k) = 0) → WP 148 5 [some (.ref 35), some (.int (nI s)), some (.int (nI w)), some (.int ((nI n) + (Int32.ofInt 1))), some (.int ((nI k) + (Int32.ofInt 1))), some (.int (zI h 45 ((((Int32.ofInt 400) * (nI s)) + (nI k))).toNatClampNeg))] [] (yI (yI (yI h 63 ((((Int32.ofInt 400) * (nI w)) + (nI n))).toNatClampNeg (zI h 45 ((((Int32.ofInt 400) * (nI s)) + (nI k))).toNatClampNeg)) 64 ((((Int32.ofInt 400) * (nI w)) + (nI n))).toNatClampNeg (Int32.ofInt 0)) 64 (((((Int32.ofInt 400) * (nI w)) + ((nI n) + (Int32.ofInt 1))) - (Int32.ofInt 1))).toNatClampNeg ((zI (yI (yI h 63 ((((Int32.ofInt 400) * (nI w)) + (nI n))).toNatClampNeg (zI h 45 ((((Int32.ofInt 400) * (nI s)) + (nI k))).toNatClampNeg)) 64 ((((Int32.ofInt 400) * (nI w)) + (nI n))).toNatClampNeg (Int32.ofInt 0)) 64 (((((Int32.ofInt 400) * (nI w)) + ((nI n) + (Int32.ofInt 1))) - (Int32.ofInt 1))).toNatClampNeg) + (Int32.ofInt 1))) Q) (g11 : (¬ (zI h 38 ((nI s)).toNatClampNeg) ≤ (nI k)) → (¬ (nI k) = 0) → vp_in ((((Int32.ofInt 400) * (nI s)) + (nI k)) - (Int32.ofInt 1)) 4800) (g13 : (¬ (zI h 38 ((nI s)).toNatClampNeg) ≤ (nI k)) → (¬ (nI k) = 0) → ((zI h 45 ((((Int32.ofInt 400) * (nI s)) + (nI k))).toNatClampNeg) = (zI h 45 (((((Int32.ofInt 400) * (nI s)) + (nI k)) - (Int32.ofInt 1))).toNatClampNeg)) → vp_in ((((Int32.ofInt 400) * (nI w)) + (nI n)) - (Int32.ofInt 1)) 800) (k14 : (¬ (zI h 38 ((nI s)).toNatClampNeg) ≤ (nI k)) → (¬ (nI k) = 0) → ((zI h 45 ((((Int32.ofInt 400) * (nI s)) + (nI k))).toNatClampNeg) = (zI h 45 (((((Int32.ofInt 400) * (nI s)) + (nI k)) - (Int32.ofInt 1))).toNatClampNeg)) → WP 148 5 [some (.ref 35), some (.int (nI s)), some (.int (nI w)), some (.int (nI n)), some (.int ((nI k) + (Int32.ofInt 1))), some (.int (zI h 45 ((((Int32.ofInt 400) * (nI s)) + (nI k))).toNatClampNeg))] [] (yI h 64 (((((Int32.ofInt 400) * (nI w)) + (nI n)) - (Int32.ofInt 1))).toNatClampNeg ((zI h 64 (((((Int32.ofInt 400) * (nI w)) + (nI n)) - (Int32.ofInt 1))).toNatClampNeg) + (Int32.ofInt 1))) Q) (g15 : (¬ (zI h 38 ((nI s)).toNatClampNeg) ≤ (nI k)) → (¬ (nI k) = 0) → (¬ (zI h 45 ((((Int32.ofInt 400) * (nI s)) + (nI k))).toNatClampNeg) = (zI h 45 (((((Int32.ofInt 400) * (nI s)) + (nI k)) - (Int32.ofInt 1))).toNatClampNeg)) → vp_in (((Int32.ofInt 400) * (nI w)) + (nI n)) 800) (g16 : (¬ (zI h 38 ((nI s)).toNatClampNeg) ≤ (nI k)) → (¬ (nI k) = 0) → (¬ (zI h 45 ((((Int32.ofInt 400) * (nI s)) + (nI k))).toNatClampNeg) = (zI h 45 (((((Int32.ofInt 400) * (nI s)) + (nI k)) - (Int32.ofInt 1))).toNatClampNeg)) → vp_in (((Int32.ofInt 400) * (nI w)) + (nI n)) 800) (g17 : (¬ (zI h 38 ((nI s)).toNatClampNeg) ≤ (nI k)) → (¬ (nI k) = 0) → (¬ (zI h 45 ((((Int32.ofInt 400) * (nI s)) + (nI k))).toNatClampNeg) = (zI h 45 (((((Int32.ofInt 400) * (nI s)) + (nI k)) - (Int32.ofInt 1))).toNatClampNeg)) → vp_in ((((Int32.ofInt 400) * (nI w)) + ((nI n) + (Int32.ofInt 1))) - (Int32.ofInt 1)) 800) (k18 : (¬ (zI h 38 ((nI s)).toNatClampNeg) ≤ (nI k)) → (¬ (nI k) = 0) → (¬ (zI h 45 ((((Int32.ofInt 400) * (nI s)) + (nI k))).toNatClampNeg) = (zI h 45 (((((Int32.ofInt 400) * (nI s)) + (nI k)) - (Int32.ofInt 1))).toNatClampNeg)) → WP 148 5 [some (.ref 35), some (.int (nI s)), some (.int (nI w)), some (.int ((nI n) + (Int32.ofInt 1))), some (.int ((nI k) + (Int32.ofInt 1))), some (.int (zI h 45 ((((Int32.ofInt 400) * (nI s)) + (nI k))).toNatClampNeg))] [] (yI (yI (yI h 63 ((((Int32.ofInt 400) * (nI w)) + (nI n))).toNatClampNeg (zI h 45 ((((Int32.ofInt 400) * (nI s)) + (nI k))).toNatClampNeg)) 64 ((((Int32.ofInt 400) * (nI w)) + (nI n))).toNatClampNeg (Int32.ofInt 0)) 64 (((((Int32.ofInt 400) * (nI w)) + ((nI n) + (Int32.ofInt 1))) - (Int32.ofInt 1))).toNatClampNeg ((zI (yI (yI h 63 ((((Int32.ofInt 400) * (nI w)) + (nI n))).toNatClampNeg (zI h 45 ((((Int32.ofInt 400) * (nI s)) + (nI k))).toNatClampNeg)) 64 ((((Int32.ofInt 400) * (nI w)) + (nI n))).toNatClampNeg (Int32.ofInt 0)) 64 (((((Int32.ofInt 400) * (nI w)) + ((nI n) + (Int32.ofInt 1))) - (Int32.ofInt 1))).toNatClampNeg) + (Int32.ofInt 1))) Q) : WP 148 5 [some (.ref 35), some (.int (nI s)), some (.int (nI w)), some (.int (nI n)), some (.int (nI k)), d5] [] h Q :=
  B148_5 (S.T 35) (S.R 35 20) ⟨(S.T 38), (S.bd 38 g1)⟩ (fun c2 => B148_110 (S.T 35) (S.R 35 52) ⟨(S.T 65), (S.bd 65 (g3 c2))⟩ (k4 c2)) (fun c2 => B148_16 (S.T 35) (S.R 35 27) ⟨(S.T 45), (S.bd 45 (g5 c2))⟩ (fun c6 => B148_56 (S.T 35) (S.R 35 50) ⟨(S.T 63), (S.bd 63 (g7 c2 c6))⟩ (S.R 35 51) ⟨(S.T 64), (S.bd 64 (g8 c2 c6))⟩ (B148_86 (S.T 35) (S.R 35 51) ⟨(S.T 64), (S.bd 64 (g9 c2 c6))⟩ (k10 c2 c6))) (fun c6 => B148_36 (S.T 35) (S.R 35 27) ⟨(S.T 45), (S.bd 45 (g11 c2 c6))⟩ (fun c12 => B148_86 (S.T 35) (S.R 35 51) ⟨(S.T 64), (S.bd 64 (g13 c2 c6 c12))⟩ (k14 c2 c6 c12)) (fun c12 => B148_56 (S.T 35) (S.R 35 50) ⟨(S.T 63), (S.bd 63 (g15 c2 c6 c12))⟩ (S.R 35 51) ⟨(S.T 64), (S.bd 64 (g16 c2 c6 c12))⟩ (B148_86 (S.T 35) (S.R 35 51) ⟨(S.T 64), (S.bd 64 (g17 c2 c6 c12))⟩ (k18 c2 c6 c12)))))
/-- rows of blocks -/
def BL (g : pm_H) (w : Nat) (l : List Nat) : Prop := ∀ i, i < bkn l → zI g 63 (400 * w + i) = nI (bkc l i) ∧ zI g 64 (400 * w + i) = nI (bkm l i)
def BLF (h g : pm_H) (w : Nat) : Prop := ∀ j, j < 400 * w ∨ 400 * w + 400 ≤ j → zI g 63 j = zI h 63 j ∧ zI g 64 j = zI h 64 j
theorem c148L {h0 : pm_H} {Q : Option Value → pm_H → Prop} {l : List Nat} {s w : Nat} (hl : l.length ≤ 400) (hl1 : 1 ≤ l.length) (hs : s < 12) (hw : w < 2) (hc : ∀ k, l.getD k 0 < 8) (e38 : zI h0 38 s = nI l.length) (e45 : ∀ k, k < l.length → zI h0 45 (400 * s + k) = nI (l.getD k 0))
    (k0 : ∀ g, Same [63, 64, 65] h0 g → BL g w l → BLF h0 g w → zI g 65 = va_up (zI h0 65) w (nI (bkn l)) → Q none g) :
    ∀ (m k n : Nat) (h : pm_H) (d5 : Option Value), n = bkn (l.take k) → k + m = l.length → SK h → Same [63, 64] h0 h → BL h w (l.take k) → BLF h0 h w → WP 148 5 [some (.ref 35), some (.int (nI s)), some (.int (nI w)), some (.int (nI n)), some (.int (nI k)), d5] [] h Q := by
  intro m
  induction m with
  | zero =>
    intro k n h d5 hn hk S sa b1 b2
    subst hn
    obtain rfl : k = l.length := by omega
    have f38 : zI h 38 s = nI l.length := by rw [sa.1 38 (by decide)]; exact e38
    refine V148L  S ?_ ?_ ?_ ?_ ?_ ?_ ?_ ?_ ?_ ?_ ?_ ?_ ?_ ?_ ?_ <;> simp (disch := omega) only [oi_l, oi_n, z_nI, nIA, nIM, nIS, nIlt, nIle, nIeq, nIC, vpI, Nat.add_sub_cancel, Nat.not_le, Nat.not_lt, Nat.not_lt_zero, Nat.le_refl, not_true_eq_false, not_false_eq_true, false_imp_iff, true_imp_iff, forall_const, implies_true, Nat.reduceEqDiff, Nat.reduceLeDiff, Nat.reduceLT, f38, Nat.le_refl, not_true_eq_false, false_imp_iff, true_imp_iff, forall_const] <;> (try omega)
    refine k0 _ ((sa.sub (by decide)).I 65 _ _ (by decide)) ?_ ?_ ?_
    · intro i hi
      have := b1 i (by rw [List.take_length]; exact hi)
      rw [List.take_length] at this
      simpa [zI_yI] using this
    · intro j hj
      simpa [zI_yI] using b2 j hj
    · rw [List.take_length]
      simp [zI_yI, sa.1 65 (by decide)]
  | succ m ih =>
    intro k n h d5 hn hk S sa b1 b2
    subst hn
    have f38 : zI h 38 s = nI l.length := by rw [sa.1 38 (by decide)]; exact e38
    have f45 := e45 k (by omega)
    rw [← sa.1 45 (by decide)] at f45
    have hkl : ¬ l.length ≤ k := by omega
    have hck := hc k
    have htl : (l.take k).length = k := by simp; omega
    have et := bk_take (l := l) (k := k) (by omega)
    by_cases h0 : k = 0
    · subst h0
      rw [List.take_zero, List.nil_append] at et
      refine V148L  S ?_ ?_ ?_ ?_ ?_ ?_ ?_ ?_ ?_ ?_ ?_ ?_ ?_ ?_ ?_ <;> simp (disch := omega) only [oi_l, oi_n, z_nI, nIA, nIM, nIS, nIlt, nIle, nIeq, nIC, vpI, Nat.add_sub_cancel, Nat.not_le, Nat.not_lt, Nat.not_lt_zero, Nat.le_refl, not_true_eq_false, not_false_eq_true, false_imp_iff, true_imp_iff, forall_const, implies_true, Nat.reduceEqDiff, Nat.reduceLeDiff, Nat.reduceLT, f38, f45, hkl, Nat.le_refl, not_true_eq_false, not_false_eq_true, false_imp_iff, true_imp_iff, forall_const, List.take_zero, show bkn [] = 0 from rfl] <;> (try omega)
      refine ih (0 + 1) _ _ _ (by rw [et]; rfl) (by omega) (((((Same.rf (L := [63, 64])).I 63 _ _ (by decide)).I 64 _ _ (by decide)).I 64 _ _ (by decide)).SK S) (((sa.I 63 _ _ (by decide)).I 64 _ _ (by decide)).I 64 _ _ (by decide)) ?_ ?_
      · intro i hi
        rw [et] at hi ⊢
        have : i < 1 := hi
        obtain rfl : i = 0 := by omega
        rw [(bk_S1 _).2.1, (bk_S1 _).2.2]
        simp [zI_yI, va_upA]
        rfl
      · intro j hj
        have := b2 j hj
        have n1 : j ≠ 400 * w := by omega
        simpa [zI_yI, va_upA, n1] using this
    · have f45' := e45 (k - 1) (by omega)
      rw [← sa.1 45 (by decide), show 400 * s + (k - 1) = 400 * s + k - 1 by omega] at f45'
      have hck' := hc (k - 1)
      have hbk := bk_al (l := l.take k) (by omega)
      obtain ⟨a1, a2, a3, a4, a5⟩ := hbk
      have hlast : (l.take k).getD ((l.take k).length - 1) 0 = l.getD (k - 1) 0 := by
        rw [htl, List.getD_eq_getElem?_getD, List.getD_eq_getElem?_getD, List.getElem?_take_of_lt (by omega)]
      by_cases hcc : l.getD k 0 = l.getD (k - 1) 0
      · have e2 := bk_S2 (c := l.getD k 0) (l := l.take k) (by omega) (by rw [hlast, hcc])
        rw [← et] at e2
        refine V148L  S ?_ ?_ ?_ ?_ ?_ ?_ ?_ ?_ ?_ ?_ ?_ ?_ ?_ ?_ ?_ <;> simp (disch := omega) only [oi_l, oi_n, z_nI, nIA, nIM, nIS, nIlt, nIle, nIeq, nIC, vpI, Nat.add_sub_cancel, Nat.not_le, Nat.not_lt, Nat.not_lt_zero, Nat.le_refl, not_true_eq_false, not_false_eq_true, false_imp_iff, true_imp_iff, forall_const, implies_true, Nat.reduceEqDiff, Nat.reduceLeDiff, Nat.reduceLT, f38, f45, f45', hkl, h0, hcc, Nat.le_refl, not_true_eq_false, not_false_eq_true, false_imp_iff, true_imp_iff, forall_const] <;> (try omega)
        refine ih (k + 1) _ _ _ e2.1.symm (by omega) (((Same.rf (L := [63, 64])).I 64 _ _ (by decide)).SK S) (sa.I 64 _ _ (by decide)) ?_ ?_
        · intro i hi
          rw [e2.1] at hi
          rw [e2.2.1 i hi, e2.2.2 i hi]
          obtain ⟨c1, c2⟩ := b1 i hi
          by_cases hi' : i = bkn (l.take k) - 1
          · subst hi'
            rw [if_pos rfl]
            rw [show 400 * w + (bkn (l.take k) - 1) = 400 * w + bkn (l.take k) - 1 by omega] at c1 c2 ⊢
            simp [zI_yI, va_upA, c1, c2, nIA]
          · rw [if_neg hi']
            have n1 : 400 * w + i ≠ 400 * w + bkn (l.take k) - 1 := by omega
            simp [zI_yI, va_upA, n1, c1, c2]
        · intro j hj
          have := b2 j hj
          have n1 : j ≠ 400 * w + bkn (l.take k) - 1 := by omega
          simpa [zI_yI, va_upA, n1] using this
      · have e3 := bk_S3 (c := l.getD k 0) (l := l.take k) (by omega) (by rw [hlast]; exact fun q => hcc q.symm)
        rw [← et] at e3
        refine V148L  S ?_ ?_ ?_ ?_ ?_ ?_ ?_ ?_ ?_ ?_ ?_ ?_ ?_ ?_ ?_ <;> simp (disch := omega) only [oi_l, oi_n, z_nI, nIA, nIM, nIS, nIlt, nIle, nIeq, nIC, vpI, Nat.add_sub_cancel, Nat.not_le, Nat.not_lt, Nat.not_lt_zero, Nat.le_refl, not_true_eq_false, not_false_eq_true, false_imp_iff, true_imp_iff, forall_const, implies_true, Nat.reduceEqDiff, Nat.reduceLeDiff, Nat.reduceLT, f38, f45, f45', hkl, h0, hcc, Nat.le_refl, not_true_eq_false, not_false_eq_true, false_imp_iff, true_imp_iff, forall_const] <;> (try omega)
        refine ih (k + 1) _ _ _ e3.1.symm (by omega) (((((Same.rf (L := [63, 64])).I 63 _ _ (by decide)).I 64 _ _ (by decide)).I 64 _ _ (by decide)).SK S) (((sa.I 63 _ _ (by decide)).I 64 _ _ (by decide)).I 64 _ _ (by decide)) ?_ ?_
        · intro i hi
          rw [e3.1] at hi
          by_cases hi' : i = bkn (l.take k)
          · subst hi'
            rw [e3.2.2.2.1, e3.2.2.2.2]
            simp [zI_yI, va_upA]
            rfl
          · have hi2 : i < bkn (l.take k) := by omega
            rw [e3.2.1 i hi2, e3.2.2.1 i hi2]
            obtain ⟨c1, c2⟩ := b1 i hi2
            have n1 : 400 * w + i ≠ 400 * w + bkn (l.take k) := by omega
            simp [zI_yI, va_upA, n1, hi', c1, c2]
        · intro j hj
          have := b2 j hj
          have n1 : j ≠ 400 * w + bkn (l.take k) := by omega
          simpa [zI_yI, va_upA, n1] using this
/-- blocksOf -/
theorem c148 {h : pm_H} {Q : Option Value → pm_H → Prop} {l : List Nat} {s w : Nat} (S : SK h) (hl : l.length ≤ 400) (hl1 : 1 ≤ l.length) (hs : s < 12) (hw : w < 2) (hc : ∀ k, l.getD k 0 < 8) (e38 : zI h 38 s = nI l.length) (e45 : ∀ k, k < l.length → zI h 45 (400 * s + k) = nI (l.getD k 0))
    (k0 : ∀ g, Same [63, 64, 65] h g → BL g w l → BLF h g w → zI g 65 = va_up (zI h 65) w (nI (bkn l)) → Q none g) : WP 148 0 [some (.ref 35), some (.int (nI s)), some (.int (nI w)), none, none, none] [] h Q :=
  V148 S (c148L hl hl1 hs hw hc e38 e45 k0 l.length 0 0 h none rfl (by omega) S Same.rf (fun i hi => absurd hi (Nat.not_lt_zero _)) (fun _ _ => ⟨rfl, rfl⟩))

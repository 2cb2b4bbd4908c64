/-! closes of the model -/
theorem V141 {h : pm_H} {Q : Option Value → pm_H → Prop} {d4 : Option Value} {d5 : Option Value} {d6 : Option Value} {d7 : Option Value} {a : Nat} {z : Nat} {t : Nat} (S : SK h) (k3 : (¬ (nI t) = 0) → (((nI a) + (((nI z) - (nI a)) * (nI t))) ≤ (Int32.ofInt 400)) → WP 141 123 [some (.ref 35), some (.int (nI a)), some (.int (nI z)), some (.int (nI t)), some (.int ((Int32.ofInt 400) * (zI h 35 17))), some (.int ((nI z) - (nI a))), some (.int ((nI z) - (nI a))), d7] [] h Q) (k5 : (¬ (nI t) = 0) → (¬ ((nI a) + (((nI z) - (nI a)) * (nI t))) ≤ (Int32.ofInt 400)) → ((zI h 35 7) ≤ 0) → Q (some (.int (nI z))) (yI (yI h 35 7 (Int32.ofInt 7)) 35 8 (zI h 35 10))) (k6 : (¬ (nI t) = 0) → (¬ ((nI a) + (((nI z) - (nI a)) * (nI t))) ≤ (Int32.ofInt 400)) → (¬ (zI h 35 7) ≤ 0) → Q (some (.int (nI z))) h) (k7 : ((nI t) = 0) → WP 141 22 [some (.ref 35), some (.int (nI a)), some (.int (nI z)), some (.int (nI t)), some (.int ((Int32.ofInt 400) * (zI h 35 17))), some (.int ((nI z) - (nI a))), some (.int (Int32.ofInt 0)), d7] [] h Q) : WP 141 0 [some (.ref 35), some (.int (nI a)), some (.int (nI z)), some (.int (nI t)), d4, d5, d6, d7] [] h Q :=
  B141_0 (S.T 35) (fun c1 => B141_95 (fun c2 => B141_119 (k3 c1 c2)) (fun c2 => B141_107 (S.T 35) (B136_0 (S.T 35) (fun c4 => B136_8 (S.T 35) (B141_117 (k5 c1 c2 c4))) (fun c4 => B136_7 (B141_117 (k6 c1 c2 c4)))))) (fun c1 => B141_19 (k7 c1))
theorem V141R {h : pm_H} {Q : Option Value → pm_H → Prop} {d7 : Option Value} {a : Nat} {z : Nat} {t : Nat} {bs : Nat} {le : Nat} {k : Nat} (S : SK h) (k2 : (((nI le) / (Int32.ofInt 2)) ≤ (nI k)) → Q (some (.int (nI z))) h) (g3 : (¬ ((nI le) / (Int32.ofInt 2)) ≤ (nI k)) → vp_in (((nI bs) + (nI a)) + (nI k)) 4800) (g4 : (¬ ((nI le) / (Int32.ofInt 2)) ≤ (nI k)) → vp_in ((((nI bs) + (nI z)) - (Int32.ofInt 1)) - (nI k)) 4800) (k5 : (¬ ((nI le) / (Int32.ofInt 2)) ≤ (nI k)) → WP 141 22 [some (.ref 35), some (.int (nI a)), some (.int (nI z)), some (.int (nI t)), some (.int (nI bs)), some (.int (nI le)), some (.int ((nI k) + (Int32.ofInt 1))), some (.int (zI h 46 ((((nI bs) + (nI a)) + (nI k))).toNatClampNeg))] [] (yI (yI h 46 ((((nI bs) + (nI a)) + (nI k))).toNatClampNeg (zI h 46 (((((nI bs) + (nI z)) - (Int32.ofInt 1)) - (nI k))).toNatClampNeg).toInt8.toInt32) 46 (((((nI bs) + (nI z)) - (Int32.ofInt 1)) - (nI k))).toNatClampNeg (zI h 46 ((((nI bs) + (nI a)) + (nI k))).toNatClampNeg).toInt8.toInt32) Q) : WP 141 22 [some (.ref 35), some (.int (nI a)), some (.int (nI z)), some (.int (nI t)), some (.int (nI bs)), some (.int (nI le)), some (.int (nI k)), d7] [] h Q :=
  B141_22 (by decide) (fun c1 => B141_93 (k2 c1)) (fun c1 => B141_31 (S.T 35) (S.R 35 28) ⟨(S.T 46), (S.bd 46 (g3 c1))⟩ ⟨(S.T 46), (S.bd 46 (g4 c1))⟩ (k5 c1))
theorem V141P {h : pm_H} {Q : Option Value → pm_H → Prop} {d7 : Option Value} {a : Nat} {z : Nat} {t : Nat} {bs : Nat} {le : Nat} {k : Nat} (S : SK h) (k2 : (((nI le) * (nI t)) ≤ (nI k)) → Q (some (.int ((nI a) + ((nI le) * (nI t))))) h) (g3 : (¬ ((nI le) * (nI t)) ≤ (nI k)) → vp_in ((((nI bs) + (nI a)) + (nI k)) - (nI le)) 4800) (g4 : (¬ ((nI le) * (nI t)) ≤ (nI k)) → vp_in (((nI bs) + (nI a)) + (nI k)) 4800) (k5 : (¬ ((nI le) * (nI t)) ≤ (nI k)) → WP 141 123 [some (.ref 35), some (.int (nI a)), some (.int (nI z)), some (.int (nI t)), some (.int (nI bs)), some (.int (nI le)), some (.int ((nI k) + (Int32.ofInt 1))), d7] [] (yI h 46 ((((nI bs) + (nI a)) + (nI k))).toNatClampNeg (zI h 46 (((((nI bs) + (nI a)) + (nI k)) - (nI le))).toNatClampNeg).toInt8.toInt32) Q) : WP 141 123 [some (.ref 35), some (.int (nI a)), some (.int (nI z)), some (.int (nI t)), some (.int (nI bs)), some (.int (nI le)), some (.int (nI k)), d7] [] h Q :=
  B141_123 (fun c1 => B141_165 (k2 c1)) (fun c1 => B141_132 (S.T 35) (S.R 35 28) ⟨(S.T 46), (S.bd 46 (g3 c1))⟩ ⟨(S.T 46), (S.bd 46 (g4 c1))⟩ (k5 c1))
def MP (g : pm_H) (s : Nat) (l : List Nat) : Prop := ∀ j, j < l.length → zI g 46 (400 * s + j) = nI (l.getD j 0)
def F46 (h g : pm_H) (s : Nat) : Prop := ∀ j, j < 400 * s ∨ 400 * s + 400 ≤ j → zI g 46 j = zI h 46 j
theorem F46.rf {h : pm_H} {s : Nat} : F46 h h s := fun _ _ => rfl
theorem F46.tr {h g f : pm_H} {s : Nat} (p : F46 h g s) (q : F46 g f s) : F46 h f s := fun j hj => (q j hj).trans (p j hj)
theorem c141 {h : pm_H} {Q : Option Value → pm_H → Prop} {l : List Nat} {s a t : Nat} {p : Nat} (S : SK h) (hs : s < 12) (hl : l.length ≤ 400) (ha : a ≤ l.length) (ht : t ≤ 50) (w4 : ∀ j, l.getD j 0 < 8) (mp : MP h s l) (e17 : zI h 35 17 = nI s) (e7 : zI h 35 7 = nI 0) (e10 : zI h 35 10 = nI p)
    (kb : t ≠ 0 ∧ 400 < a + (l.length - a) * t → ∀ g, MF [46] h g → F46 h g s → zI g 35 7 = nI 7 → zI g 35 8 = nI p → Q (some (.int (nI l.length))) g)
    (k0 : ¬ (t ≠ 0 ∧ 400 < a + (l.length - a) * t) → ∀ g, Same [46] h g → F46 h g s → MP g s (clsL l a t) → Q (some (.int (nI (clsL l a t).length))) g) : WP 141 0 [some (.ref 35), some (.int (nI a)), some (.int (nI l.length)), some (.int (nI t)), none, none, none, none] [] h Q := by
  by_cases t0 : t = 0
  · subst t0
    have rl : (revL l a).length = l.length := mkL_len _ _
    have L : ∀ r i (g : pm_H) d7, i + r = (l.length - a) / 2 → Same [46] h g → F46 h g s → (∀ j, j < l.length → zI g 46 (400 * s + j) = nI (if a ≤ j ∧ (j < a + i ∨ l.length ≤ j + i) then l.getD (a + (l.length - 1 - j)) 0 else l.getD j 0)) → WP 141 22 [some (.ref 35), some (.int (nI a)), some (.int (nI l.length)), some (.int (nI 0)), some (.int (nI (400 * s))), some (.int (nI (l.length - a))), some (.int (nI i)), d7] [] g Q := by
      intro r
      induction r with
      | zero =>
        intro i g d7 hi sg f46 f
        have k' := k0 (fun q => q.1 rfl) g sg f46 (fun j hj => by
          unfold clsL at hj ⊢
          rw [if_pos rfl] at hj ⊢
          rw [rl] at hj
          rw [f j hj]; unfold revL; rw [mkL_g _ _ _ hj]
          by_cases c1 : j < a
          · rw [if_pos c1, if_neg (by omega)]
          · rw [if_neg c1]
            by_cases c2 : j < a + i ∨ l.length ≤ j + i
            · rw [if_pos ⟨by omega, c2⟩]
            · rw [if_neg (fun q => c2 q.2), show a + (l.length - 1 - j) = j by omega])
        have ec : (clsL l a 0).length = l.length := by unfold clsL; rw [if_pos rfl]; exact rl
        rw [ec] at k'
        refine V141R  (sg.SK S) ?_ ?_ ?_ ?_ <;> simp (disch := omega) only [oi_l, oi_n, z_nI, nIA, nIM, nIS, nIlt, nIle, nIeq, nIC, vpI, Nat.add_sub_cancel, Nat.not_le, Nat.not_lt, Nat.not_lt_zero, Nat.le_refl, not_true_eq_false, not_false_eq_true, false_imp_iff, true_imp_iff, forall_const, implies_true, Nat.reduceEqDiff, Nat.reduceLeDiff, Nat.reduceLT, nID, show (l.length - a) / 2 ≤ i by omega] <;> first | omega | exact k'
      | succ r ih =>
        intro i g d7 hi sg f46 f
        have y1 := f (a + i) (by omega)
        rw [if_neg (by omega), show 400 * s + (a + i) = 400 * s + a + i by omega] at y1
        have y2 := f (l.length - 1 - i) (by omega)
        rw [if_neg (by omega), show 400 * s + (l.length - 1 - i) = 400 * s + l.length - 1 - i by omega] at y2
        have z1 := b8 (w4 (a + i))
        have z2 := b8 (w4 (l.length - 1 - i))
        have ne : ¬ 400 * s + l.length - 1 - i = 400 * s + a + i := by omega
        have I' := fun d7 => ih (i + 1) (yI (yI g 46 (400 * s + a + i) (nI (l.getD (l.length - 1 - i) 0))) 46 (400 * s + l.length - 1 - i) (nI (l.getD (a + i) 0))) d7 (by omega) ((sg.I 46 _ _ (by decide)).I 46 _ _ (by decide)) (fun j hj => by
          simp only [zI_yI, va_upA, if_true]
          rw [if_neg (by omega), if_neg (by omega)]; exact f46 j hj) (fun j hj => by
          simp only [zI_yI, va_upA, if_true]
          by_cases e1 : j = l.length - 1 - i
          · rw [if_pos (by omega), if_pos (by omega), e1, show a + (l.length - 1 - (l.length - 1 - i)) = a + i by omega]
          · rw [if_neg (by omega)]
            by_cases e2 : j = a + i
            · rw [if_pos (by omega), if_pos (by omega), e2, show a + (l.length - 1 - (a + i)) = l.length - 1 - i by omega]
            · rw [if_neg (by omega), f j hj]
              by_cases c1 : a ≤ j ∧ (j < a + i ∨ l.length ≤ j + i)
              · rw [if_pos c1, if_pos (by omega)]
              · rw [if_neg c1, if_neg (by omega)])
        refine V141R  (sg.SK S) ?_ ?_ ?_ ?_ <;> simp (disch := omega) only [oi_l, oi_n, z_nI, nIA, nIM, nIS, nIlt, nIle, nIeq, nIC, vpI, Nat.add_sub_cancel, Nat.not_le, Nat.not_lt, Nat.not_lt_zero, Nat.le_refl, not_true_eq_false, not_false_eq_true, false_imp_iff, true_imp_iff, forall_const, implies_true, Nat.reduceEqDiff, Nat.reduceLeDiff, Nat.reduceLT, zI_yI, va_upA, Nat.reduceEqDiff, ↓reduceIte, nID, y1, y2, z1, z2, ne, show ¬ (l.length - a) / 2 ≤ i by omega] <;> first | omega | exact I' _
    have L' := L _ 0 h none (Nat.zero_add _) Same.rf F46.rf (fun j hj => by rw [if_neg (by omega)]; exact mp j hj)
    refine V141  S ?_ ?_ ?_ ?_ <;> simp (disch := omega) only [oi_l, oi_n, z_nI, nIA, nIM, nIS, nIlt, nIle, nIeq, nIC, vpI, Nat.add_sub_cancel, Nat.not_le, Nat.not_lt, Nat.not_lt_zero, Nat.le_refl, not_true_eq_false, not_false_eq_true, false_imp_iff, true_imp_iff, forall_const, implies_true, Nat.reduceEqDiff, Nat.reduceLeDiff, Nat.reduceLT, e17] <;> first | omega | exact L'
  · have pl : (repL l a t).length = a + (l.length - a) * t := mkL_len _ _
    have mb : (l.length - a) * t ≤ 400 * 50 := Nat.mul_le_mul (by omega) ht
    have ml : l.length - a ≤ (l.length - a) * t := Nat.le_mul_of_pos_right _ (by omega)
    by_cases big : 400 < a + (l.length - a) * t
    · have k' := kb ⟨t0, big⟩ (yI (yI h 35 7 (nI 7)) 35 8 (nI p)) ((MF.rf.F 7 _ (by omega)).F 8 _ (by omega)) (fun j _ => by simp only [zI_yI, Nat.reduceEqDiff, if_false]) (by simp [zI_yI, va_upA]) (by simp [zI_yI, va_upA])
      refine V141  S ?_ ?_ ?_ ?_ <;> simp (disch := omega) only [oi_l, oi_n, z_nI, nIA, nIM, nIS, nIlt, nIle, nIeq, nIC, vpI, Nat.add_sub_cancel, Nat.not_le, Nat.not_lt, Nat.not_lt_zero, Nat.le_refl, not_true_eq_false, not_false_eq_true, false_imp_iff, true_imp_iff, forall_const, implies_true, Nat.reduceEqDiff, Nat.reduceLeDiff, Nat.reduceLT, e17, e7, e10, t0, show ¬ a + (l.length - a) * t ≤ 400 by omega] <;> first | omega | exact k'
    · have ec : (clsL l a t).length = a + (l.length - a) * t := by unfold clsL; rw [if_neg t0]; exact pl
      have L : ∀ r k (g : pm_H) d7, k + r = (l.length - a) * t → l.length - a ≤ k → Same [46] h g → F46 h g s → (∀ j, j < a + k → zI g 46 (400 * s + j) = nI (if j < a then l.getD j 0 else l.getD (a + (j - a) % (l.length - a)) 0)) → WP 141 123 [some (.ref 35), some (.int (nI a)), some (.int (nI l.length)), some (.int (nI t)), some (.int (nI (400 * s))), some (.int (nI (l.length - a))), some (.int (nI k)), d7] [] g Q := by
        intro r
        induction r with
        | zero =>
          intro k g d7 hk hlk sg f46 f
          have k' := k0 (fun q => big q.2) g sg f46 (fun j hj => by
            rw [ec] at hj
            unfold clsL
            rw [if_neg t0, f j (by omega)]; unfold repL; rw [mkL_g _ _ _ hj])
          rw [ec] at k'
          refine V141P  (sg.SK S) ?_ ?_ ?_ ?_ <;> simp (disch := omega) only [oi_l, oi_n, z_nI, nIA, nIM, nIS, nIlt, nIle, nIeq, nIC, vpI, Nat.add_sub_cancel, Nat.not_le, Nat.not_lt, Nat.not_lt_zero, Nat.le_refl, not_true_eq_false, not_false_eq_true, false_imp_iff, true_imp_iff, forall_const, implies_true, Nat.reduceEqDiff, Nat.reduceLeDiff, Nat.reduceLT, show (l.length - a) * t ≤ k by omega] <;> first | omega | exact k'
        | succ r ih =>
          intro k g d7 hk hlk sg f46 f
          have lpos : 0 < l.length - a := by
            by_cases q : l.length - a = 0
            · rw [q, Nat.zero_mul] at hk; omega
            · omega
          have y := f (a + k - (l.length - a)) (by omega)
          rw [if_neg (by omega), show 400 * s + (a + k - (l.length - a)) = 400 * s + a + k - (l.length - a) by omega] at y
          have md : (a + k - (l.length - a) - a) % (l.length - a) = k % (l.length - a) := by
            have e : k = (a + k - (l.length - a) - a) + (l.length - a) := by omega
            rw [show k % (l.length - a) = ((a + k - (l.length - a) - a) + (l.length - a)) % (l.length - a) from congrArg (· % (l.length - a)) e, Nat.add_mod_right]
          rw [md] at y
          have z := b8 (w4 (a + k % (l.length - a)))
          have I' := fun d7 => ih (k + 1) (yI g 46 (400 * s + a + k) (nI (l.getD (a + k % (l.length - a)) 0))) d7 (by omega) (by omega) (sg.I 46 _ _ (by decide)) (fun j hj => by
            simp only [zI_yI, va_upA, if_true]
            rw [if_neg (by omega)]; exact f46 j hj) (fun j hj => by
            simp only [zI_yI, va_upA, if_true]
            by_cases e : j = a + k
            · rw [if_pos (by omega), if_neg (by omega), e, show a + k - a = k by omega]
            · rw [if_neg (by omega)]; exact f j (by omega))
          refine V141P  (sg.SK S) ?_ ?_ ?_ ?_ <;> simp (disch := omega) only [oi_l, oi_n, z_nI, nIA, nIM, nIS, nIlt, nIle, nIeq, nIC, vpI, Nat.add_sub_cancel, Nat.not_le, Nat.not_lt, Nat.not_lt_zero, Nat.le_refl, not_true_eq_false, not_false_eq_true, false_imp_iff, true_imp_iff, forall_const, implies_true, Nat.reduceEqDiff, Nat.reduceLeDiff, Nat.reduceLT, y, z, show ¬ (l.length - a) * t ≤ k by omega] <;> first | omega | exact I' _
      have L' := L _ (l.length - a) h none (show l.length - a + ((l.length - a) * t - (l.length - a)) = _ by omega) (Nat.le_refl _) Same.rf F46.rf (fun j hj => by
        rw [mp j (by omega)]
        by_cases c : j < a
        · rw [if_pos c]
        · rw [if_neg c, Nat.mod_eq_of_lt (by omega), show a + (j - a) = j by omega])
      refine V141  S ?_ ?_ ?_ ?_ <;> simp (disch := omega) only [oi_l, oi_n, z_nI, nIA, nIM, nIS, nIlt, nIle, nIeq, nIC, vpI, Nat.add_sub_cancel, Nat.not_le, Nat.not_lt, Nat.not_lt_zero, Nat.le_refl, not_true_eq_false, not_false_eq_true, false_imp_iff, true_imp_iff, forall_const, implies_true, Nat.reduceEqDiff, Nat.reduceLeDiff, Nat.reduceLT, e17, t0, show a + (l.length - a) * t ≤ 400 by omega] <;> first | omega | exact L'

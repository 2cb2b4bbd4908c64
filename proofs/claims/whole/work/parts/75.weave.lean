/-! the picks of a strip, as they are told -/
def mkL (f : Nat → Nat) (m : Nat) : List Nat := (List.range m).map f
theorem mkL_len (f : Nat → Nat) (m : Nat) : (mkL f m).length = m := by simp [mkL]
theorem mkL_g (f : Nat → Nat) (m j : Nat) (h : j < m) : (mkL f m).getD j 0 = f j := by
  unfold mkL
  rw [List.getD_eq_getElem?_getD, List.getElem?_map, List.getElem?_range h]
  rfl
theorem mkL_c {f : Nat → Nat} {m : Nat} (h : ∀ j, j < m → f j < 8) : ∀ c ∈ mkL f m, c < 8 := fun c hc => by
  unfold mkL at hc
  rw [List.mem_map] at hc
  obtain ⟨j, hj, rfl⟩ := hc
  exact h j (List.mem_range.mp hj)
def addL (l : List Nat) (m c : Nat) : List Nat := mkL (fun j => if j < l.length then l.getD j 0 else c) (l.length + m)
def revL (l : List Nat) (a : Nat) : List Nat := mkL (fun j => if j < a then l.getD j 0 else l.getD (a + (l.length - 1 - j)) 0) l.length
def repL (l : List Nat) (a t : Nat) : List Nat := mkL (fun j => if j < a then l.getD j 0 else l.getD (a + (j - a) % (l.length - a)) 0) (a + (l.length - a) * t)
theorem V79 {h : pm_H} {Q : Option Value → pm_H → Prop} {d3 : Option Value} {c : Nat} {m : Nat} (S : SK h) (k2 : ((nI m) < 0) → Q (some (.int (Int32.ofInt 0))) h) (k4 : (¬ (nI m) < 0) → ((nI m) ≤ ((Int32.ofInt (zN h 5)) - (zI h 4 1))) → WP 79 22 [some (.ref 4), some (.int (nI c)), some (.int (nI m)), some (.int (Int32.ofInt 0))] [] h Q) (k5 : (¬ (nI m) < 0) → (¬ (nI m) ≤ ((Int32.ofInt (zN h 5)) - (zI h 4 1))) → Q (some (.int (Int32.ofInt 0))) h) : WP 79 0 [some (.ref 4), some (.int (nI c)), some (.int (nI m)), d3] [] h Q :=
  B79_0 (fun c1 => B79_18 oi0 (k2 c1)) (fun c1 => B79_4 (S.T 4) (S.R 4 0) (S.al 5) (fun c3 => B79_20 (k4 c1 c3)) (fun c3 => B79_18 oi0 (k5 c1 c3)))
theorem V79L {h : pm_H} {Q : Option Value → pm_H → Prop} {c : Nat} {m : Nat} {k : Nat} (S : SK h) (k2 : ((nI m) ≤ (nI k)) → Q (some (.int (Int32.ofInt 1))) (yI h 4 1 ((zI h 4 1) + (nI m)))) (g3 : (¬ (nI m) ≤ (nI k)) → vp_in ((zI h 4 1) + (nI k)) 400) (k4 : (¬ (nI m) ≤ (nI k)) → WP 79 22 [some (.ref 4), some (.int (nI c)), some (.int (nI m)), some (.int ((nI k) + (Int32.ofInt 1)))] [] (yI h 5 (((zI h 4 1) + (nI k))).toNatClampNeg ((nI c)).toInt8.toInt32.toInt8.toInt32) Q) : WP 79 22 [some (.ref 4), some (.int (nI c)), some (.int (nI m)), some (.int (nI k))] [] h Q :=
  B79_22 (fun c1 => B79_46 (S.T 4) oi1 (k2 c1)) (fun c1 => B79_27 (S.T 4) (S.R 4 0) ⟨(S.T 5), (S.bd 5 (g3 c1))⟩ (k4 c1))
theorem V80 {h : pm_H} {Q : Option Value → pm_H → Prop} {t : Nat} (S : SK h) (g2 : ((zI h 4 4) < (Int32.ofInt (zN h 6))) → vp_in (zI h 4 4) 8) (g3 : ((zI h 4 4) < (Int32.ofInt (zN h 6))) → vp_in (zI h 4 4) 8) (k4 : ((zI h 4 4) < (Int32.ofInt (zN h 6))) → Q (some (.int (Int32.ofInt 1))) (yI (yI (yI h 6 ((zI h 4 4)).toNatClampNeg (zI h 4 1)) 7 ((zI h 4 4)).toNatClampNeg (nI t)) 4 4 ((zI h 4 4) + (Int32.ofInt 1)))) (k5 : (¬ (zI h 4 4) < (Int32.ofInt (zN h 6))) → Q (some (.int (Int32.ofInt 0))) h) : WP 80 0 [some (.ref 4), some (.int (nI t))] [] h Q :=
  B80_0 (S.T 4) (S.R 4 2) (S.al 6) (fun c1 => B80_14 (S.T 4) (S.R 4 2) ⟨(S.T 6), (S.bd 6 (g2 c1))⟩ (S.R 4 3) ⟨(S.T 7), (S.bd 7 (g3 c1))⟩ oi1 (k4 c1)) (fun c1 => B80_12 oi0 (k5 c1))
theorem V81 {h : pm_H} {Q : Option Value → pm_H → Prop}  (S : SK h) (g2 : (0 < (zI h 4 4)) → vp_in ((zI h 4 4) - (Int32.ofInt 1)) 8) (g4 : (0 < (zI h 4 4)) → (¬ (zI h 7 (((zI h 4 4) - (Int32.ofInt 1))).toNatClampNeg) = 0) → vp_in ((zI h 4 4) - (Int32.ofInt 1)) 8) (g5 : (0 < (zI h 4 4)) → (¬ (zI h 7 (((zI h 4 4) - (Int32.ofInt 1))).toNatClampNeg) = 0) → vp_in ((zI h 4 4) - (Int32.ofInt 1)) 8) (k6 : (0 < (zI h 4 4)) → (¬ (zI h 7 (((zI h 4 4) - (Int32.ofInt 1))).toNatClampNeg) = 0) → WP 83 0 [some (.ref 4), some (.int (zI h 6 (((zI h 4 4) - (Int32.ofInt 1))).toNatClampNeg)), some (.int (zI h 7 (((zI h 4 4) - (Int32.ofInt 1))).toNatClampNeg)), none, none, none] [] (yI h 4 4 ((zI h 4 4) - (Int32.ofInt 1))) (fun v1 h1 => WP 81 68 [some (.ref 4)] (v1.toList ++ []) h1 Q)) (g7 : (0 < (zI h 4 4)) → ((zI h 7 (((zI h 4 4) - (Int32.ofInt 1))).toNatClampNeg) = 0) → vp_in ((zI h 4 4) - (Int32.ofInt 1)) 8) (k8 : (0 < (zI h 4 4)) → ((zI h 7 (((zI h 4 4) - (Int32.ofInt 1))).toNatClampNeg) = 0) → WP 82 0 [some (.ref 4), some (.int (zI h 6 (((zI h 4 4) - (Int32.ofInt 1))).toNatClampNeg)), none, none, none] [] (yI h 4 4 ((zI h 4 4) - (Int32.ofInt 1))) (fun v1 h1 => WP 81 44 [some (.ref 4)] (v1.toList ++ []) h1 Q)) (k9 : (¬ 0 < (zI h 4 4)) → Q (some (.int (Int32.ofInt 0))) h) : WP 81 0 [some (.ref 4)] [] h Q :=
  B81_0 (S.T 4) (fun c1 => B81_9 (S.T 4) (S.R 4 3) ⟨(S.T 7), (S.bd 7 (g2 c1))⟩ (fun c3 => B81_46 (S.T 4) (S.R 4 2) ⟨(S.T 6), (S.bd 6 (g4 c1 c3))⟩ (S.R 4 3) ⟨(S.T 7), (S.bd 7 (g5 c1 c3))⟩ (k6 c1 c3)) (fun c3 => B81_31 (S.T 4) (S.R 4 2) ⟨(S.T 6), (S.bd 6 (g7 c1 c3))⟩ (k8 c1 c3))) (fun c1 => B81_7 oi0 (k9 c1))
theorem V81r {h : pm_H} {Q : Option Value → pm_H → Prop}  (S : SK h) (k1 : Q (some (.int (Int32.ofInt 1))) h) : WP 81 44 [some (.ref 4)] [] h Q :=
  B81_44 oi1 k1
theorem V81s {h : pm_H} {Q : Option Value → pm_H → Prop} {b : Int32} (S : SK h) (g1 : b = 0 ∨ b = 1) (k2 : Q (some (.int b)) h) : WP 81 68 [some (.ref 4)] [.int b] h Q :=
  B81_68 g1 k2
theorem V82 {h : pm_H} {Q : Option Value → pm_H → Prop} {d2 : Option Value} {d3 : Option Value} {d4 : Option Value} {a : Nat} (S : SK h) (k1 : WP 82 9 [some (.ref 4), some (.int (nI a)), some (.int ((zI h 4 1) - (Int32.ofInt 1))), some (.int (nI a)), d4] [] h Q) : WP 82 0 [some (.ref 4), some (.int (nI a)), d2, d3, d4] [] h Q :=
  B82_0 (S.T 4) (k1)
theorem V82L {h : pm_H} {Q : Option Value → pm_H → Prop} {hi : Int32} {d4 : Option Value} {a : Nat} {lo : Nat} (S : SK h) (k2 : (hi ≤ (nI lo)) → Q none h) (g3 : (¬ hi ≤ (nI lo)) → vp_in (nI lo) 400) (g4 : (¬ hi ≤ (nI lo)) → vp_in hi 400) (k5 : (¬ hi ≤ (nI lo)) → WP 82 9 [some (.ref 4), some (.int (nI a)), some (.int (hi + (Int32.ofInt (-1)))), some (.int ((nI lo) + (Int32.ofInt 1))), some (.int (zI h 5 ((nI lo)).toNatClampNeg))] [] (yI (yI h 5 ((nI lo)).toNatClampNeg (zI h 5 (hi).toNatClampNeg).toInt8.toInt32) 5 (hi).toNatClampNeg (zI h 5 ((nI lo)).toNatClampNeg).toInt8.toInt32) Q) : WP 82 9 [some (.ref 4), some (.int (nI a)), some (.int hi), some (.int (nI lo)), d4] [] h Q :=
  B82_9 (fun c1 => B82_51 (k2 c1)) (fun c1 => B82_14 (S.T 4) (S.R 4 0) ⟨(S.T 5), (S.bd 5 (g3 c1))⟩ ⟨(S.T 5), (S.bd 5 (g4 c1))⟩ (k5 c1))
theorem V83 {h : pm_H} {Q : Option Value → pm_H → Prop} {d3 : Option Value} {d4 : Option Value} {d5 : Option Value} {a : Nat} {t : Nat} (S : SK h) (k2 : (((nI a) + (((zI h 4 1) - (nI a)) * (nI t))) ≤ (Int32.ofInt (zN h 5))) → WP 83 32 [some (.ref 4), some (.int (nI a)), some (.int (nI t)), some (.int ((zI h 4 1) - (nI a))), some (.int ((nI a) + (((zI h 4 1) - (nI a)) * (nI t)))), some (.int (zI h 4 1))] [] h Q) (k3 : (¬ ((nI a) + (((zI h 4 1) - (nI a)) * (nI t))) ≤ (Int32.ofInt (zN h 5))) → Q (some (.int (Int32.ofInt 0))) h) : WP 83 0 [some (.ref 4), some (.int (nI a)), some (.int (nI t)), d3, d4, d5] [] h Q :=
  B83_0 (S.T 4) (S.R 4 0) (S.al 5) (fun c1 => B83_26 (S.T 4) (k2 c1)) (fun c1 => B83_24 oi0 (k3 c1))
theorem V83L {h : pm_H} {Q : Option Value → pm_H → Prop} {a : Nat} {t : Nat} {le : Nat} {en : Nat} {k : Nat} (S : SK h) (k2 : ((nI en) ≤ (nI k)) → Q (some (.int (Int32.ofInt 1))) (yI h 4 1 (nI en))) (g3 : (¬ (nI en) ≤ (nI k)) → vp_in ((nI k) - (nI le)) 400) (g4 : (¬ (nI en) ≤ (nI k)) → vp_in (nI k) 400) (k5 : (¬ (nI en) ≤ (nI k)) → WP 83 32 [some (.ref 4), some (.int (nI a)), some (.int (nI t)), some (.int (nI le)), some (.int (nI en)), some (.int ((nI k) + (Int32.ofInt 1)))] [] (yI h 5 ((nI k)).toNatClampNeg (zI h 5 (((nI k) - (nI le))).toNatClampNeg).toInt8.toInt32) Q) : WP 83 32 [some (.ref 4), some (.int (nI a)), some (.int (nI t)), some (.int (nI le)), some (.int (nI en)), some (.int (nI k))] [] h Q :=
  B83_32 (fun c1 => B83_61 (S.T 4) oi1 (k2 c1)) (fun c1 => B83_39 (S.T 4) (S.R 4 0) ⟨(S.T 5), (S.bd 5 (g3 c1))⟩ ⟨(S.T 5), (S.bd 5 (g4 c1))⟩ (k5 c1))
theorem b8f : ∀ c : Fin 8, (nI c).toInt8.toInt32 = nI c := by decide
theorem b8 {c : Nat} (h : c < 8) : (nI c).toInt8.toInt32 = nI c := b8f ⟨c, h⟩
abbrev Stk : Type := List (Nat × Nat)
def skD (st : Stk) (d : Nat) : Nat × Nat := st.getD (st.length - 1 - d) (0, 0)
/-- the picks and the open pieces at the weave -/
def WV (g : pm_H) (l : List Nat) (st : Stk) : Prop := (zI g 4 1 = nI l.length ∧ l.length ≤ 400 ∧ (∀ j, j < l.length → zI g 5 j = nI (l.getD j 0)) ∧ (∀ j, l.getD j 0 < 8)) ∧ (∀ j, ∃ c, c < 8 ∧ zI g 5 j = nI c) ∧ zI g 4 4 = nI st.length ∧ st.length ≤ 8 ∧ (∀ d, d < st.length → zI g 6 d = nI (skD st d).1 ∧ zI g 7 d = nI (skD st d).2 ∧ (skD st d).1 ≤ l.length ∧ (skD st d).2 ≤ 50)
theorem skD_c (x : Nat × Nat) (st : Stk) (d : Nat) (h : d < st.length) : skD (x :: st) d = skD st d := by
  unfold skD
  rw [List.length_cons, show st.length + 1 - 1 - d = (st.length - 1 - d) + 1 by omega]
  simp
theorem skD_t (x : Nat × Nat) (st : Stk) : skD (x :: st) st.length = x := by
  unfold skD
  rw [List.length_cons, show st.length + 1 - 1 - st.length = 0 by omega]
  rfl
section WEV
variable {h : pm_H} {Q : Option Value → pm_H → Prop} {l : List Nat} {st : Stk}
theorem c79 {c m : Nat} (S : SK h) (w : WV h l st) (hc : c < 8) (hm : m ≤ 200) (kf : 400 < l.length + m → Q (some (.int (Int32.ofInt 0))) h) (kt : l.length + m ≤ 400 → ∀ g, Same [4, 5] h g → WV g (addL l m c) st → Q (some (.int (Int32.ofInt 1))) g) : WP 79 0 [some (.ref 4), some (.int (nI c)), some (.int (nI m)), none] [] h Q := by
  obtain ⟨⟨w1, w2, w3, w4⟩, w5, w6, w7, w8⟩ := id w
  have N5 : zN h 5 = 400 := S.N 5
  by_cases big : 400 < l.length + m
  · have k' := kf big
    refine V79  S ?_ ?_ ?_ <;> simp (disch := omega) only [oi_l, oi_n, z_nI, nIA, nIM, nIS, nIlt, nIle, nIeq, nIC, vpI, Nat.add_sub_cancel, Nat.not_le, Nat.not_lt, Nat.not_lt_zero, Nat.le_refl, not_true_eq_false, not_false_eq_true, false_imp_iff, true_imp_iff, forall_const, implies_true, Nat.reduceEqDiff, Nat.reduceLeDiff, Nat.reduceLT, w1, N5, show ¬ m ≤ 400 - l.length by omega] <;> first | omega | exact k'
  · have L : ∀ r k (g : pm_H), k + r = m → Same [4, 5] h g → zI g 4 = zI h 4 → (∀ j, j < l.length + k → zI g 5 j = nI (if j < l.length then l.getD j 0 else c)) → (∀ j, ∃ c, c < 8 ∧ zI g 5 j = nI c) → WP 79 22 [some (.ref 4), some (.int (nI c)), some (.int (nI m)), some (.int (nI k))] [] g Q := by
      intro r
      induction r with
      | zero =>
        intro k g hk sg e4 f f5
        obtain rfl : k = m := by omega
        have q1 : zI g 4 1 = nI l.length := by rw [e4]; exact w1
        have len : (addL l k c).length = l.length + k := mkL_len _ _
        have k' := kt (by omega) (yI g 4 1 (nI (l.length + k))) (sg.I 4 _ _ (by decide)) ⟨⟨by rw [len]; simp [zI_yI, va_upA], by rw [len]; omega, fun j hj => by
            rw [len] at hj
            simp only [zI_yI, Nat.reduceEqDiff, if_false]
            rw [f j hj]; unfold addL; rw [mkL_g _ _ _ hj], gD8 (mkL_c (fun j _ => by
            show (if j < l.length then l.getD j 0 else c) < 8
            split
            · exact w4 j
            · exact hc))⟩, by simp only [zI_yI, Nat.reduceEqDiff, if_false]; exact f5, by simp only [zI_yI, va_upA, Nat.reduceEqDiff, if_true, if_false]; rw [e4]; exact w6, w7, fun d hd => by
            obtain ⟨a1, a2, a3, a4⟩ := w8 d hd
            simp only [zI_yI, Nat.reduceEqDiff, if_false]
            rw [sg.1 6 (by decide), sg.1 7 (by decide), len]
            exact ⟨a1, a2, by omega, a4⟩⟩
        refine V79L  (sg.SK S) ?_ ?_ ?_ <;> simp (disch := omega) only [oi_l, oi_n, z_nI, nIA, nIM, nIS, nIlt, nIle, nIeq, nIC, vpI, Nat.add_sub_cancel, Nat.not_le, Nat.not_lt, Nat.not_lt_zero, Nat.le_refl, not_true_eq_false, not_false_eq_true, false_imp_iff, true_imp_iff, forall_const, implies_true, Nat.reduceEqDiff, Nat.reduceLeDiff, Nat.reduceLT, q1] <;> first | omega | exact k'
      | succ r ih =>
        intro k g hk sg e4 f f5
        have q1 : zI g 4 1 = nI l.length := by rw [e4]; exact w1
        have I' := ih (k + 1) (yI g 5 (l.length + k) (nI c)) (by omega) (sg.I 5 _ _ (by decide)) (by simp only [zI_yI, Nat.reduceEqDiff, if_false]; exact e4) (fun j hj => by
          simp only [zI_yI, va_upA, if_true]
          by_cases e : j = l.length + k
          · rw [if_pos e, if_neg (by omega)]
          · rw [if_neg e]; exact f j (by omega)) (fun j => by
          simp only [zI_yI, va_upA, if_true]
          by_cases e : j = l.length + k
          · rw [if_pos e]; exact ⟨c, hc, rfl⟩
          · rw [if_neg e]; exact f5 j)
        refine V79L  (sg.SK S) ?_ ?_ ?_ <;> simp (disch := omega) only [oi_l, oi_n, z_nI, nIA, nIM, nIS, nIlt, nIle, nIeq, nIC, vpI, Nat.add_sub_cancel, Nat.not_le, Nat.not_lt, Nat.not_lt_zero, Nat.le_refl, not_true_eq_false, not_false_eq_true, false_imp_iff, true_imp_iff, forall_const, implies_true, Nat.reduceEqDiff, Nat.reduceLeDiff, Nat.reduceLT, q1, b8 hc, show ¬ m ≤ k by omega] <;> first | omega | exact I'
    have L' := L m 0 h (by omega) Same.rf rfl (fun j hj => by rw [if_pos (by omega)]; exact w3 j (by omega)) w5
    refine V79  S ?_ ?_ ?_ <;> simp (disch := omega) only [oi_l, oi_n, z_nI, nIA, nIM, nIS, nIlt, nIle, nIeq, nIC, vpI, Nat.add_sub_cancel, Nat.not_le, Nat.not_lt, Nat.not_lt_zero, Nat.le_refl, not_true_eq_false, not_false_eq_true, false_imp_iff, true_imp_iff, forall_const, implies_true, Nat.reduceEqDiff, Nat.reduceLeDiff, Nat.reduceLT, w1, N5, show m ≤ 400 - l.length by omega] <;> first | omega | exact L'
theorem c80 {t : Nat} (S : SK h) (w : WV h l st) (ht : t ≤ 50) (kf : 8 ≤ st.length → Q (some (.int (Int32.ofInt 0))) h) (kt : st.length < 8 → ∀ g, Same [4, 6, 7] h g → WV g l ((l.length, t) :: st) → Q (some (.int (Int32.ofInt 1))) g) : WP 80 0 [some (.ref 4), some (.int (nI t))] [] h Q := by
  obtain ⟨⟨w1, w2, w3, w4⟩, w5, w6, w7, w8⟩ := id w
  have N6 : zN h 6 = 8 := S.N 6
  by_cases big : 8 ≤ st.length
  · have k' := kf big
    refine V80  S ?_ ?_ ?_ ?_ <;> simp (disch := omega) only [oi_l, oi_n, z_nI, nIA, nIM, nIS, nIlt, nIle, nIeq, nIC, vpI, Nat.add_sub_cancel, Nat.not_le, Nat.not_lt, Nat.not_lt_zero, Nat.le_refl, not_true_eq_false, not_false_eq_true, false_imp_iff, true_imp_iff, forall_const, implies_true, Nat.reduceEqDiff, Nat.reduceLeDiff, Nat.reduceLT, w6, N6, show ¬ st.length < 8 by omega] <;> first | omega | exact k'
  · refine V80  S ?_ ?_ ?_ ?_ <;> simp (disch := omega) only [oi_l, oi_n, z_nI, nIA, nIM, nIS, nIlt, nIle, nIeq, nIC, vpI, Nat.add_sub_cancel, Nat.not_le, Nat.not_lt, Nat.not_lt_zero, Nat.le_refl, not_true_eq_false, not_false_eq_true, false_imp_iff, true_imp_iff, forall_const, implies_true, Nat.reduceEqDiff, Nat.reduceLeDiff, Nat.reduceLT, zI_yI, va_upA, Nat.reduceEqDiff, ↓reduceIte, w1, w6, N6, show st.length < 8 by omega] <;> (try omega)
    refine kt (by omega) _ (((Same.rf.I 6 _ _ (by decide)).I 7 _ _ (by decide)).I 4 _ _ (by decide)) ⟨⟨by simp [zI_yI, va_upA, w1], w2, fun j hj => by simp only [zI_yI, Nat.reduceEqDiff, if_false]; exact w3 j hj, w4⟩, by simp only [zI_yI, Nat.reduceEqDiff, if_false]; exact w5, by simp [zI_yI, va_upA], by simp; omega, fun d hd => ?_⟩
    simp only [List.length_cons] at hd
    simp only [zI_yI, va_upA, Nat.reduceEqDiff, if_true, if_false]
    by_cases e : d = st.length
    · rw [if_pos e, if_pos e, e, skD_t]; exact ⟨rfl, rfl, Nat.le_refl _, ht⟩
    · rw [if_neg e, if_neg e, skD_c _ _ _ (by omega)]; exact w8 d (by omega)
theorem b8z {h : pm_H} (w5 : ∀ j, ∃ c, c < 8 ∧ zI h 5 j = nI c) (j : Nat) : (zI h 5 j).toInt8.toInt32 = zI h 5 j := by
  obtain ⟨c, c1, c2⟩ := w5 j
  rw [c2, b8 c1]
theorem c82 {a : Nat} (S : SK h) (w1 : zI h 4 1 = nI l.length) (hl : l.length ≤ 400) (ha : a ≤ l.length) (w3 : ∀ j, j < l.length → zI h 5 j = nI (l.getD j 0)) (w4 : ∀ j, l.getD j 0 < 8) (w5 : ∀ j, ∃ c, c < 8 ∧ zI h 5 j = nI c) (k0 : ∀ g, Same [5] h g → (∀ j, j < l.length → zI g 5 j = nI ((revL l a).getD j 0)) → (∀ j, ∃ c, c < 8 ∧ zI g 5 j = nI c) → Q none g) : WP 82 0 [some (.ref 4), some (.int (nI a)), none, none, none] [] h Q := by
  have L : ∀ r i (g : pm_H) d4, l.length - a ≤ 2 * i + r → 2 * i ≤ l.length - a + 1 → Same [5] h g → (∀ j, j < l.length → zI g 5 j = nI (if a ≤ j ∧ (j < a + i ∨ l.length ≤ j + i) then l.getD (a + (l.length - 1 - j)) 0 else l.getD j 0)) → (∀ j, ∃ c, c < 8 ∧ zI g 5 j = nI c) → WP 82 9 [some (.ref 4), some (.int (nI a)), some (.int (Int32.ofInt ((l.length : Int) - 1 - i))), some (.int (nI (a + i))), d4] [] g Q := by
    intro r
    induction r with
    | zero =>
      intro i g d4 hr h2 sg f f5
      have c0 : Int32.ofInt ((l.length : Int) - 1 - i) ≤ nI (a + i) := by rw [← oi_n, zLE (by omega) (by omega) (by omega) (by omega)]; omega
      have k' := k0 g sg (fun j hj => by
        rw [f j hj]; unfold revL; rw [mkL_g _ _ _ hj]
        by_cases c1 : j < a
        · rw [if_pos c1, if_neg (by omega)]
        · rw [if_neg c1]
          by_cases c2 : j < a + i ∨ l.length ≤ j + i
          · rw [if_pos ⟨by omega, c2⟩]
          · omega) f5
      refine V82L  (sg.SK S) ?_ ?_ ?_ ?_ <;> simp (disch := omega) only [oi_l, oi_n, z_nI, nIA, nIM, nIS, nIlt, nIle, nIeq, nIC, vpI, Nat.add_sub_cancel, Nat.not_le, Nat.not_lt, Nat.not_lt_zero, Nat.le_refl, not_true_eq_false, not_false_eq_true, false_imp_iff, true_imp_iff, forall_const, implies_true, Nat.reduceEqDiff, Nat.reduceLeDiff, Nat.reduceLT, c0] <;> first | omega | exact k'
    | succ r ih =>
      intro i g d4 hr h2 sg f f5
      by_cases cc : a + i + i + 1 < l.length
      · have e : Int32.ofInt ((l.length : Int) - 1 - i) = nI (l.length - 1 - i) := by rw [← oi_n]; exact congrArg Int32.ofInt (by omega)
        have y1 := f (a + i) (by omega)
        rw [if_neg (by omega)] at y1
        have y2 := f (l.length - 1 - i) (by omega)
        rw [if_neg (by omega)] at y2
        have z1 := b8 (w4 (a + i))
        have z2 := b8 (w4 (l.length - 1 - i))
        have em : nI (l.length - 1 - i) + Int32.ofInt (-1) = Int32.ofInt ((l.length : Int) - 1 - ((i + 1 : Nat) : Int)) := by rw [← oi_n, ← Int32.ofInt_add]; exact congrArg Int32.ofInt (by omega)
        have I' := fun d4 => ih (i + 1) (yI (yI g 5 (a + i) (nI (l.getD (l.length - 1 - i) 0))) 5 (l.length - 1 - i) (nI (l.getD (a + i) 0))) d4 (by omega) (by omega) ((sg.I 5 _ _ (by decide)).I 5 _ _ (by decide)) (fun j hj => by
          simp only [zI_yI, va_upA, if_true]
          by_cases e1 : j = l.length - 1 - i
          · rw [if_pos e1, if_pos (by omega), e1, show a + (l.length - 1 - (l.length - 1 - i)) = a + i by omega]
          · rw [if_neg e1]
            by_cases e2 : j = a + i
            · rw [if_pos e2, if_pos (by omega), e2, show a + (l.length - 1 - (a + i)) = l.length - 1 - i by omega]
            · rw [if_neg e2, f j hj]
              by_cases c1 : a ≤ j ∧ (j < a + i ∨ l.length ≤ j + i)
              · rw [if_pos c1, if_pos (by omega)]
              · rw [if_neg c1, if_neg (by omega)]) (fun j => by
          simp only [zI_yI, va_upA, if_true]
          by_cases e1 : j = l.length - 1 - i
          · rw [if_pos e1]; exact ⟨_, w4 _, rfl⟩
          · rw [if_neg e1]
            by_cases e2 : j = a + i
            · rw [if_pos e2]; exact ⟨_, w4 _, rfl⟩
            · rw [if_neg e2]; exact f5 j)
        have ne : ¬ l.length - 1 - i = a + i := by omega
        rw [e]
        refine V82L  (sg.SK S) ?_ ?_ ?_ ?_ <;> simp (disch := omega) only [oi_l, oi_n, z_nI, nIA, nIM, nIS, nIlt, nIle, nIeq, nIC, vpI, Nat.add_sub_cancel, Nat.not_le, Nat.not_lt, Nat.not_lt_zero, Nat.le_refl, not_true_eq_false, not_false_eq_true, false_imp_iff, true_imp_iff, forall_const, implies_true, Nat.reduceEqDiff, Nat.reduceLeDiff, Nat.reduceLT, zI_yI, va_upA, Nat.reduceEqDiff, ↓reduceIte, y1, y2, z1, z2, em, ne, show ¬ l.length - 1 - i ≤ a + i by omega] <;> first | omega | exact I' _
      · have c0 : Int32.ofInt ((l.length : Int) - 1 - i) ≤ nI (a + i) := by rw [← oi_n, zLE (by omega) (by omega) (by omega) (by omega)]; omega
        have k' := k0 g sg (fun j hj => by
          rw [f j hj]; unfold revL; rw [mkL_g _ _ _ hj]
          by_cases c1 : j < a
          · rw [if_pos c1, if_neg (by omega)]
          · rw [if_neg c1]
            by_cases c2 : j < a + i ∨ l.length ≤ j + i
            · rw [if_pos ⟨by omega, c2⟩]
            · rw [if_neg (fun q => c2 q.2), show a + (l.length - 1 - j) = j by omega]) f5
        refine V82L  (sg.SK S) ?_ ?_ ?_ ?_ <;> simp (disch := omega) only [oi_l, oi_n, z_nI, nIA, nIM, nIS, nIlt, nIle, nIeq, nIC, vpI, Nat.add_sub_cancel, Nat.not_le, Nat.not_lt, Nat.not_lt_zero, Nat.le_refl, not_true_eq_false, not_false_eq_true, false_imp_iff, true_imp_iff, forall_const, implies_true, Nat.reduceEqDiff, Nat.reduceLeDiff, Nat.reduceLT, c0] <;> first | omega | exact k'
  refine V82 S ?_
  rw [w1]
  have e : nI l.length - Int32.ofInt 1 = Int32.ofInt ((l.length : Int) - 1 - ((0 : Nat) : Int)) := by rw [← oi_n, ← Int32.ofInt_sub]; exact congrArg Int32.ofInt (by omega)
  rw [e]
  exact L (l.length - a) 0 h none (by omega) (by omega) Same.rf (fun j hj => by rw [if_neg (by omega)]; exact w3 j hj) w5
theorem c83 {a t : Nat} (S : SK h) (w1 : zI h 4 1 = nI l.length) (hl : l.length ≤ 400) (ha : a ≤ l.length) (ht : 1 ≤ t) (ht2 : t ≤ 50) (w3 : ∀ j, j < l.length → zI h 5 j = nI (l.getD j 0)) (w4 : ∀ j, l.getD j 0 < 8) (w5 : ∀ j, ∃ c, c < 8 ∧ zI h 5 j = nI c) (kf : 400 < a + (l.length - a) * t → Q (some (.int (Int32.ofInt 0))) h) (kt : a + (l.length - a) * t ≤ 400 → ∀ g, Same [4, 5] h g → zI g 4 = va_up (zI h 4) 1 (nI (a + (l.length - a) * t)) → (∀ j, j < a + (l.length - a) * t → zI g 5 j = nI ((repL l a t).getD j 0)) → (∀ j, ∃ c, c < 8 ∧ zI g 5 j = nI c) → Q (some (.int (Int32.ofInt 1))) g) : WP 83 0 [some (.ref 4), some (.int (nI a)), some (.int (nI t)), none, none, none] [] h Q := by
  have N5 : zN h 5 = 400 := S.N 5
  have mb : (l.length - a) * t ≤ 400 * 50 := Nat.mul_le_mul (by omega) ht2
  have ml : l.length - a ≤ (l.length - a) * t := Nat.le_mul_of_pos_right _ (by omega)
  by_cases big : 400 < a + (l.length - a) * t
  · have k' := kf big
    refine V83  S ?_ ?_ <;> simp (disch := omega) only [oi_l, oi_n, z_nI, nIA, nIM, nIS, nIlt, nIle, nIeq, nIC, vpI, Nat.add_sub_cancel, Nat.not_le, Nat.not_lt, Nat.not_lt_zero, Nat.le_refl, not_true_eq_false, not_false_eq_true, false_imp_iff, true_imp_iff, forall_const, implies_true, Nat.reduceEqDiff, Nat.reduceLeDiff, Nat.reduceLT, w1, N5, show ¬ a + (l.length - a) * t ≤ 400 by omega] <;> first | omega | exact k'
  · have L : ∀ r k (g : pm_H), k + r = a + (l.length - a) * t → l.length ≤ k → Same [5] h g → (∀ j, j < k → zI g 5 j = nI (if j < a then l.getD j 0 else l.getD (a + (j - a) % (l.length - a)) 0)) → (∀ j, ∃ c, c < 8 ∧ zI g 5 j = nI c) → WP 83 32 [some (.ref 4), some (.int (nI a)), some (.int (nI t)), some (.int (nI (l.length - a))), some (.int (nI (a + (l.length - a) * t))), some (.int (nI k))] [] g Q := by
      intro r
      induction r with
      | zero =>
        intro k g hk hlk sg f f5
        have hke : k = a + (l.length - a) * t := by omega
        have k' := kt (by omega) (yI g 4 1 (nI (a + (l.length - a) * t))) ((sg.sub (by decide)).I 4 _ _ (by decide)) (by simp only [zI_yI, if_true]; rw [sg.1 4 (by decide)]) (fun j hj => by
          simp only [zI_yI, Nat.reduceEqDiff, if_false]
          rw [f j (by omega)]; unfold repL; rw [mkL_g _ _ _ hj]) (by simp only [zI_yI, Nat.reduceEqDiff, if_false]; exact f5)
        refine V83L  (sg.SK S) ?_ ?_ ?_ ?_ <;> simp (disch := omega) only [oi_l, oi_n, z_nI, nIA, nIM, nIS, nIlt, nIle, nIeq, nIC, vpI, Nat.add_sub_cancel, Nat.not_le, Nat.not_lt, Nat.not_lt_zero, Nat.le_refl, not_true_eq_false, not_false_eq_true, false_imp_iff, true_imp_iff, forall_const, implies_true, Nat.reduceEqDiff, Nat.reduceLeDiff, Nat.reduceLT, show a + (l.length - a) * t ≤ k by omega] <;> first | omega | exact k'
      | succ r ih =>
        intro k g hk hlk sg f f5
        have lpos : 0 < l.length - a := by
          by_cases q : l.length - a = 0
          · rw [q, Nat.zero_mul] at hk; omega
          · omega
        have y := f (k - (l.length - a)) (by omega)
        rw [if_neg (by omega)] at y
        have md : (k - (l.length - a) - a) % (l.length - a) = (k - a) % (l.length - a) := by
          rw [show k - a = (k - (l.length - a) - a) + (l.length - a) by omega, Nat.add_mod_right]
        rw [md] at y
        have z := b8 (w4 (a + (k - a) % (l.length - a)))
        have I' := ih (k + 1) (yI g 5 k (nI (l.getD (a + (k - a) % (l.length - a)) 0))) (by omega) (by omega) (sg.I 5 _ _ (by decide)) (fun j hj => by
          simp only [zI_yI, va_upA, if_true]
          by_cases e : j = k
          · rw [if_pos e, if_neg (by omega), e]
          · rw [if_neg e]; exact f j (by omega)) (fun j => by
          simp only [zI_yI, va_upA, if_true]
          by_cases e : j = k
          · rw [if_pos e]; exact ⟨_, w4 _, rfl⟩
          · rw [if_neg e]; exact f5 j)
        refine V83L  (sg.SK S) ?_ ?_ ?_ ?_ <;> simp (disch := omega) only [oi_l, oi_n, z_nI, nIA, nIM, nIS, nIlt, nIle, nIeq, nIC, vpI, Nat.add_sub_cancel, Nat.not_le, Nat.not_lt, Nat.not_lt_zero, Nat.le_refl, not_true_eq_false, not_false_eq_true, false_imp_iff, true_imp_iff, forall_const, implies_true, Nat.reduceEqDiff, Nat.reduceLeDiff, Nat.reduceLT, y, z, show ¬ a + (l.length - a) * t ≤ k by omega] <;> first | omega | exact I'
    have L' := L _ l.length h (show l.length + (a + (l.length - a) * t - l.length) = _ by omega) (Nat.le_refl _) Same.rf (fun j hj => by
      rw [w3 j hj]
      by_cases c : j < a
      · rw [if_pos c]
      · rw [if_neg c, Nat.mod_eq_of_lt (by omega), show a + (j - a) = j by omega]) w5
    refine V83  S ?_ ?_ <;> simp (disch := omega) only [oi_l, oi_n, z_nI, nIA, nIM, nIS, nIlt, nIle, nIeq, nIC, vpI, Nat.add_sub_cancel, Nat.not_le, Nat.not_lt, Nat.not_lt_zero, Nat.le_refl, not_true_eq_false, not_false_eq_true, false_imp_iff, true_imp_iff, forall_const, implies_true, Nat.reduceEqDiff, Nat.reduceLeDiff, Nat.reduceLT, w1, N5, show a + (l.length - a) * t ≤ 400 by omega] <;> first | omega | exact L'
/-- what close leaves of the picks -/
def clsL (l : List Nat) (a t : Nat) : List Nat := if t = 0 then revL l a else repL l a t
theorem c81 {a t : Nat} (S : SK h) (w : WV h l ((a, t) :: st)) (kf : t ≠ 0 ∧ 400 < a + (l.length - a) * t → ∀ g, Same [4, 5] h g → (∀ j, ∃ c, c < 8 ∧ zI g 5 j = nI c) → Q (some (.int (Int32.ofInt 0))) g) (kt : ¬ (t ≠ 0 ∧ 400 < a + (l.length - a) * t) → ∀ g, Same [4, 5] h g → (∀ k, k ≠ 1 → k ≠ 4 → zI g 4 k = zI h 4 k) → ((∀ d, d < st.length → (skD st d).1 ≤ a) → WV g (clsL l a t) st) → Q (some (.int (Int32.ofInt 1))) g) : WP 81 0 [some (.ref 4)] [] h Q := by
  obtain ⟨⟨w1, w2, w3, w4⟩, w5, w6, w7, w8⟩ := id w
  rw [List.length_cons] at w6 w7 w8
  obtain ⟨t1, t2, t3, t4⟩ := w8 st.length (by omega)
  rw [skD_t] at t1 t2 t3 t4
  simp only at t1 t2 t3 t4
  have s4 : Same [4, 5] h (yI h 4 4 (nI st.length)) := Same.rf.I 4 _ _ (by decide)
  have S4 := s4.SK S
  have rest : ∀ g (l' : List Nat), Same [4, 5] h g → zI g 4 1 = nI l'.length → zI g 4 4 = nI st.length → l'.length ≤ 400 → a ≤ l'.length → (∀ j, j < l'.length → zI g 5 j = nI (l'.getD j 0)) → (∀ j, l'.getD j 0 < 8) → (∀ j, ∃ c, c < 8 ∧ zI g 5 j = nI c) → (∀ d, d < st.length → (skD st d).1 ≤ a) → WV g l' st := fun g l' sg r1 r4 r2 ra r3 rc r5 hst => ⟨⟨r1, r2, r3, rc⟩, r5, r4, by omega, fun d hd => by
    have := w8 d (by omega)
    rw [skD_c _ _ _ hd] at this
    rw [sg.1 6 (by decide), sg.1 7 (by decide)]
    exact ⟨this.1, this.2.1, by have := hst d hd; omega, this.2.2.2⟩⟩
  have q1 : zI (yI h 4 4 (nI st.length)) 4 1 = nI l.length := by simp [zI_yI, va_upA, w1]
  have q3 : ∀ j, j < l.length → zI (yI h 4 4 (nI st.length)) 5 j = nI (l.getD j 0) := by simp only [zI_yI, Nat.reduceEqDiff, if_false]; exact w3
  have q5 : ∀ j, ∃ c, c < 8 ∧ zI (yI h 4 4 (nI st.length)) 5 j = nI c := by simp only [zI_yI, Nat.reduceEqDiff, if_false]; exact w5
  by_cases t0 : t = 0
  · have rl : (revL l a).length = l.length := mkL_len _ _
    have C' : WP 82 0 [some (.ref 4), some (.int (nI a)), none, none, none] [] (yI h 4 4 (nI st.length)) (fun v1 h1 => WP 81 44 [some (.ref 4)] (v1.toList ++ []) h1 Q) := c82 S4 q1 w2 t3 q3 w4 q5 (fun g sg f f5 => V81r (sg.SK S4) (kt (by omega) g ((s4.tr sg).sub (by decide)) (fun k h1 h4 => by rw [sg.1 4 (by decide)]; simp only [zI_yI, va_upA, if_true]; rw [if_neg h4]) (fun hst => by
        unfold clsL
        rw [if_pos t0]
        refine rest g _ ((s4.tr sg).sub (by decide)) (by rw [rl, sg.1 4 (by decide)]; exact q1) (by rw [sg.1 4 (by decide)]; simp [zI_yI, va_upA]) (by rw [rl]; exact w2) (by rw [rl]; exact t3) (by rw [rl]; exact f) (gD8 (mkL_c (fun j _ => ?_))) f5 hst
        show (if j < a then l.getD j 0 else l.getD (a + (l.length - 1 - j)) 0) < 8
        split <;> exact w4 _)))
    subst t0
    refine V81  S ?_ ?_ ?_ ?_ ?_ ?_ ?_ <;> simp (disch := omega) only [oi_l, oi_n, z_nI, nIA, nIM, nIS, nIlt, nIle, nIeq, nIC, vpI, Nat.add_sub_cancel, Nat.not_le, Nat.not_lt, Nat.not_lt_zero, Nat.le_refl, not_true_eq_false, not_false_eq_true, false_imp_iff, true_imp_iff, forall_const, implies_true, Nat.reduceEqDiff, Nat.reduceLeDiff, Nat.reduceLT, zI_yI, va_upA, Nat.reduceEqDiff, ↓reduceIte, w6, t1, t2, eq_true (show 0 < st.length + 1 by omega)] <;> first | omega | exact C'
  · have pl : (repL l a t).length = a + (l.length - a) * t := mkL_len _ _
    have C' : WP 83 0 [some (.ref 4), some (.int (nI a)), some (.int (nI t)), none, none, none] [] (yI h 4 4 (nI st.length)) (fun v1 h1 => WP 81 68 [some (.ref 4)] (v1.toList ++ []) h1 Q) := c83 S4 q1 w2 t3 (by omega) t4 q3 w4 q5 (fun big => V81s S4 (Or.inl rfl) (kf ⟨t0, big⟩ _ s4 q5)) (fun big g sg e4 f f5 => V81s (sg.SK S4) (Or.inr rfl) (kt (by omega) g ((s4.tr sg).sub (by decide)) (fun k h1 h4 => by rw [e4, va_upA, if_neg h1]; simp only [zI_yI, va_upA, if_true]; rw [if_neg h4]) (fun hst => by
        unfold clsL
        rw [if_neg t0]
        refine rest g _ ((s4.tr sg).sub (by decide)) (by rw [pl, e4, va_upA, if_pos rfl]) (by rw [e4, va_upA, if_neg (by decide)]; simp [zI_yI, va_upA]) (by rw [pl]; exact big) (by rw [pl]; omega) (by rw [pl]; exact f) (gD8 (mkL_c (fun j _ => ?_))) f5 hst
        show (if j < a then l.getD j 0 else l.getD (a + (j - a) % (l.length - a)) 0) < 8
        split <;> exact w4 _)))
    refine V81  S ?_ ?_ ?_ ?_ ?_ ?_ ?_ <;> simp (disch := omega) only [oi_l, oi_n, z_nI, nIA, nIM, nIS, nIlt, nIle, nIeq, nIC, vpI, Nat.add_sub_cancel, Nat.not_le, Nat.not_lt, Nat.not_lt_zero, Nat.le_refl, not_true_eq_false, not_false_eq_true, false_imp_iff, true_imp_iff, forall_const, implies_true, Nat.reduceEqDiff, Nat.reduceLeDiff, Nat.reduceLT, zI_yI, va_upA, Nat.reduceEqDiff, ↓reduceIte, w6, t1, t2, t0, eq_true (show 0 < st.length + 1 by omega)] <;> first | omega | exact C'
end WEV

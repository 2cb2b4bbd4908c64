/-! readPieces of the class -/
def SO : Stk → Prop
  | [] => True
  | (a, _) :: st => (∀ d, d < st.length → (skD st d).1 ≤ a) ∧ SO st
theorem pcs_A {ch : Nat → Nat} {n f i : Nat} {l : List Nat} {st : Stk} {has : Bool} (cA : tkd ch n i = 1 ∧ tvl ch n i < 8) : pcs ch n (f + 1) i l st has = match p35 ch n i l with | .inl (k, p) => .inl (k, p) | .inr (j, l') => pcs ch n f j l' st true := by
  rw [pcs.eq_def]
  simp only [if_pos cA]
  unfold p35
  by_cases a1 : ¬ tkd ch n (tnx ch n i) = 2
  · rw [if_pos a1, if_pos a1]
  · rw [if_neg a1, if_neg a1]
    by_cases a2 : tvl ch n (tnx ch n i) < 1 ∨ 200 < tvl ch n (tnx ch n i)
    · rw [if_pos a2, if_pos a2]
    · rw [if_neg a2, if_neg a2]
      by_cases a3 : 400 < l.length + tvl ch n (tnx ch n i)
      · rw [if_pos a3, if_pos a3]
      · rw [if_neg a3, if_neg a3]
theorem pcs_B {ch : Nat → Nat} {n f i : Nat} {l : List Nat} {st : Stk} {has : Bool} (cA : ¬ (tkd ch n i = 1 ∧ tvl ch n i < 8)) (cB : tkd ch n i = 2 ∨ (tkd ch n i = 1 ∧ tvl ch n i = 28)) : pcs ch n (f + 1) i l st has = match p36 ch n i st with | some (k, p) => .inl (k, p) | none => pcs ch n f (tnx ch n (tnx ch n i)) l ((l.length, if tkd ch n i = 2 then tvl ch n i else 0) :: st) false := by
  rw [pcs.eq_def]
  simp only [if_neg cA, if_pos cB]
  unfold p36
  by_cases a1 : tkd ch n i = 2 ∧ (tvl ch n i < 2 ∨ 50 < tvl ch n i)
  · rw [if_pos a1, if_pos a1]
  · rw [if_neg a1, if_neg a1]
    by_cases a2 : ¬ (tkd ch n (tnx ch n i) = 3 ∧ tvl ch n (tnx ch n i) = 40)
    · rw [if_pos a2, if_pos a2]
    · rw [if_neg a2, if_neg a2]
      by_cases a3 : 8 ≤ st.length
      · rw [if_pos a3, if_pos a3]
      · rw [if_neg a3, if_neg a3]
theorem pcs_C {ch : Nat → Nat} {n f i : Nat} {l : List Nat} {st : Stk} {has : Bool} (cA : ¬ (tkd ch n i = 1 ∧ tvl ch n i < 8)) (cB : ¬ (tkd ch n i = 2 ∨ (tkd ch n i = 1 ∧ tvl ch n i = 28))) : pcs ch n (f + 1) i l st has = (match st with
          | (a, t) :: st' => if (tkd ch n i = 3 ∧ tvl ch n i = 41) ∧ has = true then
              (if t ≠ 0 ∧ 400 < a + (l.length - a) * t then .inl (7, tpl ch n i) else pcs ch n f (tnx ch n i) (clsL l a t) st' true)
              else .inl (cs1 ch n i, tpl ch n i)
          | [] => if (tkd ch n i = 3 ∧ tvl ch n i = 59) ∧ has = true then .inr (tnx ch n i, l) else .inl (cs1 ch n i, tpl ch n i)) := by
  rw [pcs.eq_def]
  simp only [if_neg cA, if_neg cB]
  cases st <;> rfl
set_option maxHeartbeats 20000000 in
theorem c34L {h : pm_H} {Q : Option Value → pm_H → Prop} {ch : Nat → Nat} {n : Nat} (S : SK h) (hn : n ≤ 800) (e2 : zI h 2 2 = nI n) (hch : CH h 3 ch n) :
    ∀ f i k l st (has : Bool) (g : pm_H) d3 hs, n < i + f → i ≤ n → k ≤ i → CR h g → zI g 1 = zI h 1 → zI g 2 3 = nI i → WV g l st → SO st → hs = (if has then nI 1 else nI 0) →
      (∀ k p, pcs ch n f i l st has = .inl (k, p) → ∀ g, CR h g → C5 g → zI g 1 1 = nI k → zI g 1 2 = nI p → Q (some (.int (Int32.ofInt 0))) g) →
      (∀ j l', pcs ch n f i l st has = .inr (j, l') → ∀ g, CR h g → zI g 1 = zI h 1 → zI g 2 3 = nI j → WV g l' [] → Q (some (.int (Int32.ofInt 1))) g) →
      WP 34 11 [some (.ref 1), some (.int hs), some (.int (nI k)), d3] [] g Q := by
  intro f
  induction f with
  | zero => intro i k l st has g d3 hs h1 h2; omega
  | succ f ih =>
    intro i k l st has g d3 hs h1 h2 h3 cg e1 f3 w so eh kb k0
    have nb := tnx_b (ch := ch) h2
    have pb := tpl_b (ch := ch) h2
    have nb2 := tnx_b (ch := ch) nb.2.1
    have pb2 := tpl_b (ch := ch) nb.2.1
    have t4 := tk_le (ch := ch) (n := n) (i := i)
    have f2 : zI g 2 2 = nI n := by rw [cg.2 2 (by decide)]; exact e2
    have hcg : CH g 3 ch n := hch.keep (cg.1.1 3 (by decide))
    refine V34L  (cg.1.SK S) ?_ ?_ <;> simp (disch := omega) only [oi_l, oi_n, z_nI, nIA, nIM, nIS, nIlt, nIle, nIeq, nIC, vpI, Nat.add_sub_cancel, Nat.not_le, Nat.not_lt, Nat.not_lt_zero, Nat.le_refl, not_true_eq_false, not_false_eq_true, false_imp_iff, true_imp_iff, forall_const, implies_true, Nat.reduceEqDiff, Nat.reduceLeDiff, Nat.reduceLT, show ¬ 800 < k by omega] <;> (try omega)
    refine c66 (cg.1.SK S) hn h2 f2 f3 hcg (fun g1 tg r3 r4 r5 r6 => ?_)
    have cg1 : CR h g1 := cg.tr (CR.T tg)
    have S1 := cg1.1.SK S
    have w1 : WV g1 l st := w.keep (tg.1.1 4 (by decide)) (tg.1.1 5 (by decide)) (tg.1.1 6 (by decide)) (tg.1.1 7 (by decide))
    have hc1 : CH g1 3 ch n := hch.keep (cg1.1.1 3 (by decide))
    have q2 : zI g1 2 2 = nI n := by rw [cg1.2 2 (by decide)]; exact e2
    have q1 : zI g1 1 = zI h 1 := by rw [tg.1.1 1 (by decide)]; exact e1
    have ct : CT g1 ch n i := ⟨r3, r4, r5, r6⟩
    have c5 : C5 g1 := w1.2.1
    have q4 : zI g1 4 4 = nI st.length := w1.2.2.1
    have q8 : st.length ≤ 8 := w1.2.2.2.1
    by_cases cA : tkd ch n i = 1 ∧ tvl ch n i < 8
    · -- a colour
      have r6' := ct_l r6 cA.1 (by omega)
      have tl := tk1l cA.1
      have l1 := (tk1w cA.1).1.mp (by omega)
      have eq := pcs_A (f := f) (l := l) (st := st) (has := has) cA
      have A' : WP 35 0 [some (.ref 1), none, none] [] g1 (fun v1 h1 => WP 34 39 [some (.ref 1), some (.int hs), some (.int (nI k)), d3] (v1.toList ++ []) h1 Q) := c35 S1 hn h2 q2 ct cA.1 cA.2 hc1 w1 (fun kk p e g2 c2 c52 b1 b2 => by
          simp only [e] at eq
          have k' := kb kk p eq g2 (cg1.tr c2) c52 b1 b2
          refine V34b  (c2.1.SK S1) ?_ ?_ <;> simp (disch := omega) only [oi_l, oi_n, z_nI, nIA, nIM, nIS, nIlt, nIle, nIeq, nIC, vpI, Nat.add_sub_cancel, Nat.not_le, Nat.not_lt, Nat.not_lt_zero, Nat.le_refl, not_true_eq_false, not_false_eq_true, false_imp_iff, true_imp_iff, forall_const, implies_true, Nat.reduceEqDiff, Nat.reduceLeDiff, Nat.reduceLT] <;> first | omega | exact k') (fun j l' e g2 c2 e12 j3 w2 => by
          simp only [e] at eq
          have jb : i < j ∧ j ≤ n := by
            unfold p35 at e
            split at e
            · cases e
            · split at e
              · cases e
              · split at e
                · cases e
                · injection e with e
                  injection e with e1 e2
                  rw [← e1]
                  have := nb.2.2 (by omega)
                  omega
          have I' := ih j (k + 1) l' st true g2 d3 (nI 1) (by omega) jb.2 (by omega) (cg1.tr c2) (by rw [e12, q1]) j3 w2 so rfl (by rw [← eq]; exact kb) (by rw [← eq]; exact k0)
          refine V34b  (c2.1.SK S1) ?_ ?_ <;> simp (disch := omega) only [oi_l, oi_n, z_nI, nIA, nIM, nIS, nIlt, nIle, nIeq, nIC, vpI, Nat.add_sub_cancel, Nat.not_le, Nat.not_lt, Nat.not_lt_zero, Nat.le_refl, not_true_eq_false, not_false_eq_true, false_imp_iff, true_imp_iff, forall_const, implies_true, Nat.reduceEqDiff, Nat.reduceLeDiff, Nat.reduceLT] <;> first | omega | exact I')
      rw [cA.1] at r4
      refine V34a  S1 ?_ ?_ ?_ ?_ ?_ ?_ ?_ ?_ ?_ <;> simp (disch := omega) only [oi_l, oi_n, z_nI, nIA, nIM, nIS, nIlt, nIle, nIeq, nIC, vpI, Nat.add_sub_cancel, Nat.not_le, Nat.not_lt, Nat.not_lt_zero, Nat.le_refl, not_true_eq_false, not_false_eq_true, false_imp_iff, true_imp_iff, forall_const, implies_true, Nat.reduceEqDiff, Nat.reduceLeDiff, Nat.reduceLT, r3, r4, r5, r6', eq_true l1, show ¬ 8 ≤ tvl ch n i by omega] <;> first | omega | exact A'
    · by_cases cB : tkd ch n i = 2 ∨ (tkd ch n i = 1 ∧ tvl ch n i = 28)
      · -- an opening
        have eq := pcs_B (f := f) (l := l) (st := st) (has := has) cA cB
        have A' : WP 36 0 [some (.ref 1), none] [] g1 (fun v1 h1 => WP 34 76 [some (.ref 1), some (.int hs), some (.int (nI k)), d3] (v1.toList ++ []) h1 Q) := c36 S1 hn h2 q2 ct cB hc1 w1 (fun kk p e g2 c2 c52 b1 b2 => by
            simp only [e] at eq
            have k' := kb kk p eq g2 (cg1.tr c2) c52 b1 b2
            refine V34c  (c2.1.SK S1) ?_ ?_ <;> simp (disch := omega) only [oi_l, oi_n, z_nI, nIA, nIM, nIS, nIlt, nIle, nIeq, nIC, vpI, Nat.add_sub_cancel, Nat.not_le, Nat.not_lt, Nat.not_lt_zero, Nat.le_refl, not_true_eq_false, not_false_eq_true, false_imp_iff, true_imp_iff, forall_const, implies_true, Nat.reduceEqDiff, Nat.reduceLeDiff, Nat.reduceLT] <;> first | omega | exact k') (fun e g2 c2 e12 j3 w2 => by
            simp only [e] at eq
            have := nb.2.2 (by omega)
            have I' := ih (tnx ch n (tnx ch n i)) (k + 1) l _ false g2 d3 (nI 0) (by omega) nb2.2.1 (by omega) (cg1.tr c2) (by rw [e12, q1]) j3 w2 ⟨fun d hd => (w1.2.2.2.2 d hd).2.2.1, so⟩ rfl (by rw [← eq]; exact kb) (by rw [← eq]; exact k0)
            refine V34c  (c2.1.SK S1) ?_ ?_ <;> simp (disch := omega) only [oi_l, oi_n, z_nI, nIA, nIM, nIS, nIlt, nIle, nIeq, nIC, vpI, Nat.add_sub_cancel, Nat.not_le, Nat.not_lt, Nat.not_lt_zero, Nat.le_refl, not_true_eq_false, not_false_eq_true, false_imp_iff, true_imp_iff, forall_const, implies_true, Nat.reduceEqDiff, Nat.reduceLeDiff, Nat.reduceLT] <;> first | omega | exact I')
        by_cases k2 : tkd ch n i = 2
        · rw [k2] at r4
          refine V34a  S1 ?_ ?_ ?_ ?_ ?_ ?_ ?_ ?_ ?_ <;> simp (disch := omega) only [oi_l, oi_n, z_nI, nIA, nIM, nIS, nIlt, nIle, nIeq, nIC, vpI, Nat.add_sub_cancel, Nat.not_le, Nat.not_lt, Nat.not_lt_zero, Nat.le_refl, not_true_eq_false, not_false_eq_true, false_imp_iff, true_imp_iff, forall_const, implies_true, Nat.reduceEqDiff, Nat.reduceLeDiff, Nat.reduceLT, r4] <;> first | omega | exact A'
        · have k1 : tkd ch n i = 1 ∧ tvl ch n i = 28 := by omega
          have tl := tk1l k1.1
          have l1 : ¬ tnx ch n i - tpl ch n i = 1 := fun q => by have := (tk1w k1.1).1.mpr q; omega
          have B' : WP 68 0 [some (.ref 2), some (.retAddr 2), none] [] g1 (fun v1 h1 => WP 34 69 [some (.ref 1), some (.int hs), some (.int (nI k)), d3] (v1.toList ++ []) h1 Q) := c68t S1 hn ⟨nb.1, nb.2.1⟩ (by decide) ct (by
            rw [if_pos ⟨k1.1, by omega⟩]
            refine V34g  S1 ?_ ?_ <;> simp (disch := omega) only [oi_l, oi_n, z_nI, nIA, nIM, nIS, nIlt, nIle, nIeq, nIC, vpI, Nat.add_sub_cancel, Nat.not_le, Nat.not_lt, Nat.not_lt_zero, Nat.le_refl, not_true_eq_false, not_false_eq_true, false_imp_iff, true_imp_iff, forall_const, implies_true, Nat.reduceEqDiff, Nat.reduceLeDiff, Nat.reduceLT] <;> first | omega | exact A')
          rw [k1.1] at r4
          refine V34a  S1 ?_ ?_ ?_ ?_ ?_ ?_ ?_ ?_ ?_ <;> simp (disch := omega) only [oi_l, oi_n, z_nI, nIA, nIM, nIS, nIlt, nIle, nIeq, nIC, vpI, Nat.add_sub_cancel, Nat.not_le, Nat.not_lt, Nat.not_lt_zero, Nat.le_refl, not_true_eq_false, not_false_eq_true, false_imp_iff, true_imp_iff, forall_const, implies_true, Nat.reduceEqDiff, Nat.reduceLeDiff, Nat.reduceLT, r3, r4, r5, l1] <;> first | omega | exact B'
      · -- the rest
        have bad : pcs ch n (f + 1) i l st has = .inl (cs1 ch n i, tpl ch n i) → Q (some (.int (Int32.ofInt 0))) (yI (yI g1 1 1 (nI (cs1 ch n i))) 1 2 (nI (tpl ch n i))) := fun e => kb _ _ e _ ((cg1.F 1 _).F 2 _) (by unfold C5; simp only [zI_yI, Nat.reduceEqDiff, if_false]; exact c5) (by simp [zI_yI, va_upA]) (by simp [zI_yI, va_upA])
        have pe := pcs_C (f := f) (l := l) (st := st) (has := has) cA cB
        have k2 : ¬ tkd ch n i = 2 := fun q => cB (Or.inl q)
        have N : WP 34 86 [some (.ref 1), some (.int hs), some (.int (nI k)), d3] [] g1 Q → WP 34 25 [some (.ref 1), some (.int hs), some (.int (nI k)), d3] [] g1 Q := by
          intro k86
          have B' : WP 68 0 [some (.ref 2), some (.retAddr 2), none] [] g1 (fun v1 h1 => WP 34 69 [some (.ref 1), some (.int hs), some (.int (nI k)), d3] (v1.toList ++ []) h1 Q) := c68t S1 hn ⟨nb.1, nb.2.1⟩ (by decide) ct (by
            rw [if_neg (fun q => cB (Or.inr ⟨q.1, by omega⟩))]
            refine V34g  S1 ?_ ?_ <;> simp (disch := omega) only [oi_l, oi_n, z_nI, nIA, nIM, nIS, nIlt, nIle, nIeq, nIC, vpI, Nat.add_sub_cancel, Nat.not_le, Nat.not_lt, Nat.not_lt_zero, Nat.le_refl, not_true_eq_false, not_false_eq_true, false_imp_iff, true_imp_iff, forall_const, implies_true, Nat.reduceEqDiff, Nat.reduceLeDiff, Nat.reduceLT] <;> first | omega | exact k86)
          by_cases k1 : tkd ch n i = 1
          · have tw := tk1w k1
            have tl := tk1l k1
            by_cases l1 : tnx ch n i - tpl ch n i = 1
            · have r6' := ct_l r6 k1 (tw.1.mpr l1)
              have v8 : ¬ tvl ch n i < 8 := fun q => cA ⟨k1, q⟩
              have v26 := tw.1.mpr l1
              rw [k1] at r4
              refine V34a  S1 ?_ ?_ ?_ ?_ ?_ ?_ ?_ ?_ ?_ <;> simp (disch := omega) only [oi_l, oi_n, z_nI, nIA, nIM, nIS, nIlt, nIle, nIeq, nIC, vpI, Nat.add_sub_cancel, Nat.not_le, Nat.not_lt, Nat.not_lt_zero, Nat.le_refl, not_true_eq_false, not_false_eq_true, false_imp_iff, true_imp_iff, forall_const, implies_true, Nat.reduceEqDiff, Nat.reduceLeDiff, Nat.reduceLT, r3, r4, r5, r6', eq_true l1, eq_true (show 8 ≤ tvl ch n i by omega)] <;> first | omega | exact B'
            · rw [k1] at r4
              refine V34a  S1 ?_ ?_ ?_ ?_ ?_ ?_ ?_ ?_ ?_ <;> simp (disch := omega) only [oi_l, oi_n, z_nI, nIA, nIM, nIS, nIlt, nIle, nIeq, nIC, vpI, Nat.add_sub_cancel, Nat.not_le, Nat.not_lt, Nat.not_lt_zero, Nat.le_refl, not_true_eq_false, not_false_eq_true, false_imp_iff, true_imp_iff, forall_const, implies_true, Nat.reduceEqDiff, Nat.reduceLeDiff, Nat.reduceLT, r3, r4, r5, l1] <;> first | omega | exact B'
          · refine V34a  S1 ?_ ?_ ?_ ?_ ?_ ?_ ?_ ?_ ?_ <;> simp (disch := omega) only [oi_l, oi_n, z_nI, nIA, nIM, nIS, nIlt, nIle, nIeq, nIC, vpI, Nat.add_sub_cancel, Nat.not_le, Nat.not_lt, Nat.not_lt_zero, Nat.le_refl, not_true_eq_false, not_false_eq_true, false_imp_iff, true_imp_iff, forall_const, implies_true, Nat.reduceEqDiff, Nat.reduceLeDiff, Nat.reduceLT, r4, k1, k2] <;> first | omega | exact B'
        by_cases k3 : tkd ch n i = 3
        · have r6' := ct_s r6 k3
          have t3 := tk3 k3
          have vb := tv_b k3
          have c2 : cs1 ch n i = 2 := by unfold cs1; rw [if_neg (by omega)]
          rw [c2] at bad
          rw [k3] at r4
          have hasn : ∀ b : Bool, b = false → (if b then nI 1 else nI 0) = nI 0 := fun b e => by rw [e]; rfl
          cases st with
          | nil =>
            simp only at pe
            have q4' : zI g1 4 4 = nI 0 := q4
            by_cases v59 : tvl ch n i = 59
            · rw [v59] at r6'
              cases has with
              | true =>
                have k' := k0 _ _ (by rw [pe, if_pos ⟨⟨k3, v59⟩, rfl⟩]) g1 cg1 q1 r3 w1
                subst eh
                refine N ?_
                refine V34e  S1 ?_ ?_ ?_ ?_ ?_ ?_ <;> simp (disch := omega) only [oi_l, oi_n, z_nI, nIA, nIM, nIS, nIlt, nIle, nIeq, nIC, vpI, Nat.add_sub_cancel, Nat.not_le, Nat.not_lt, Nat.not_lt_zero, Nat.le_refl, not_true_eq_false, not_false_eq_true, false_imp_iff, true_imp_iff, forall_const, implies_true, Nat.reduceEqDiff, Nat.reduceLeDiff, Nat.reduceLT, r4, r5, r6', q4', ↓reduceIte] <;> (try omega)
                refine V34f  S1 ?_ ?_ ?_ ?_ ?_ ?_ ?_ ?_ ?_ ?_ <;> simp (disch := omega) only [oi_l, oi_n, z_nI, nIA, nIM, nIS, nIlt, nIle, nIeq, nIC, vpI, Nat.add_sub_cancel, Nat.not_le, Nat.not_lt, Nat.not_lt_zero, Nat.le_refl, not_true_eq_false, not_false_eq_true, false_imp_iff, true_imp_iff, forall_const, implies_true, Nat.reduceEqDiff, Nat.reduceLeDiff, Nat.reduceLT, r4, r5, r6', q4', ↓reduceIte] <;> first | omega | exact k'
              | false =>
                have k' := bad (by rw [pe, if_neg (fun q => by cases q.2), c2])
                subst eh
                refine N ?_
                refine V34e  S1 ?_ ?_ ?_ ?_ ?_ ?_ <;> simp (disch := omega) only [oi_l, oi_n, z_nI, nIA, nIM, nIS, nIlt, nIle, nIeq, nIC, vpI, Nat.add_sub_cancel, Nat.not_le, Nat.not_lt, Nat.not_lt_zero, Nat.le_refl, not_true_eq_false, not_false_eq_true, false_imp_iff, true_imp_iff, forall_const, implies_true, Nat.reduceEqDiff, Nat.reduceLeDiff, Nat.reduceLT, r4, r5, r6', q4', ↓reduceIte, Bool.false_eq_true] <;> (try omega)
                refine V34f  S1 ?_ ?_ ?_ ?_ ?_ ?_ ?_ ?_ ?_ ?_ <;> simp (disch := omega) only [oi_l, oi_n, z_nI, nIA, nIM, nIS, nIlt, nIle, nIeq, nIC, vpI, Nat.add_sub_cancel, Nat.not_le, Nat.not_lt, Nat.not_lt_zero, Nat.le_refl, not_true_eq_false, not_false_eq_true, false_imp_iff, true_imp_iff, forall_const, implies_true, Nat.reduceEqDiff, Nat.reduceLeDiff, Nat.reduceLT, r4, r5, r6', q4', ↓reduceIte, Bool.false_eq_true] <;> first | omega | exact k'
            · have k' := bad (by rw [pe, if_neg (fun q => v59 q.1.2), c2])
              by_cases v41 : tvl ch n i = 41
              · rw [v41] at r6'
                refine N ?_
                refine V34e  S1 ?_ ?_ ?_ ?_ ?_ ?_ <;> simp (disch := omega) only [oi_l, oi_n, z_nI, nIA, nIM, nIS, nIlt, nIle, nIeq, nIC, vpI, Nat.add_sub_cancel, Nat.not_le, Nat.not_lt, Nat.not_lt_zero, Nat.le_refl, not_true_eq_false, not_false_eq_true, false_imp_iff, true_imp_iff, forall_const, implies_true, Nat.reduceEqDiff, Nat.reduceLeDiff, Nat.reduceLT, r4, r5, r6', q4'] <;> (try omega)
                refine V34f  S1 ?_ ?_ ?_ ?_ ?_ ?_ ?_ ?_ ?_ ?_ <;> simp (disch := omega) only [oi_l, oi_n, z_nI, nIA, nIM, nIS, nIlt, nIle, nIeq, nIC, vpI, Nat.add_sub_cancel, Nat.not_le, Nat.not_lt, Nat.not_lt_zero, Nat.le_refl, not_true_eq_false, not_false_eq_true, false_imp_iff, true_imp_iff, forall_const, implies_true, Nat.reduceEqDiff, Nat.reduceLeDiff, Nat.reduceLT, r4, r5, r6', q4'] <;> first | omega | exact k'
              · refine N ?_
                refine V34e  S1 ?_ ?_ ?_ ?_ ?_ ?_ <;> simp (disch := omega) only [oi_l, oi_n, z_nI, nIA, nIM, nIS, nIlt, nIle, nIeq, nIC, vpI, Nat.add_sub_cancel, Nat.not_le, Nat.not_lt, Nat.not_lt_zero, Nat.le_refl, not_true_eq_false, not_false_eq_true, false_imp_iff, true_imp_iff, forall_const, implies_true, Nat.reduceEqDiff, Nat.reduceLeDiff, Nat.reduceLT, r4, r5, r6', q4', v59, v41] <;> (try omega)
                refine V34f  S1 ?_ ?_ ?_ ?_ ?_ ?_ ?_ ?_ ?_ ?_ <;> simp (disch := omega) only [oi_l, oi_n, z_nI, nIA, nIM, nIS, nIlt, nIle, nIeq, nIC, vpI, Nat.add_sub_cancel, Nat.not_le, Nat.not_lt, Nat.not_lt_zero, Nat.le_refl, not_true_eq_false, not_false_eq_true, false_imp_iff, true_imp_iff, forall_const, implies_true, Nat.reduceEqDiff, Nat.reduceLeDiff, Nat.reduceLT, r4, r5, r6', q4', v59, v41] <;> first | omega | exact k'
          | cons x st' =>
            obtain ⟨a, t⟩ := x
            simp only at pe
            have q4' : zI g1 4 4 = nI (st'.length + 1) := q4
            have q8' : st'.length + 1 ≤ 8 := q8
            by_cases v41 : tvl ch n i = 41
            · rw [v41] at r6'
              cases has with
              | true =>
                rw [if_pos ⟨⟨k3, v41⟩, rfl⟩] at pe
                have A' : WP 81 0 [some (.ref 4)] [] g1 (fun v1 h1 => WP 34 119 [some (.ref 1), some (.int hs), some (.int (nI k)), d3] (v1.toList ++ []) h1 Q) := c81 S1 w1 (fun big g2 s2 c52 => by
                    have k' := kb 7 (tpl ch n i) (by rw [pe, if_pos big]) (yI (yI g2 1 1 (nI 7)) 1 2 (nI (tpl ch n i))) (((cg1.tr (CR.W s2 (by decide))).F 1 _).F 2 _) (by unfold C5; simp only [zI_yI, Nat.reduceEqDiff, if_false]; exact c52) (by simp [zI_yI, va_upA]) (by simp [zI_yI, va_upA])
                    have g25 : zI g2 2 5 = nI (tpl ch n i) := by rw [s2.1 2 (by decide)]; exact r5
                    refine V34d  (s2.SK S1) ?_ ?_ <;> simp (disch := omega) only [oi_l, oi_n, z_nI, nIA, nIM, nIS, nIlt, nIle, nIeq, nIC, vpI, Nat.add_sub_cancel, Nat.not_le, Nat.not_lt, Nat.not_lt_zero, Nat.le_refl, not_true_eq_false, not_false_eq_true, false_imp_iff, true_imp_iff, forall_const, implies_true, Nat.reduceEqDiff, Nat.reduceLeDiff, Nat.reduceLT, g25] <;> first | omega | exact k') (fun small g2 s2 f4 w2 => by
                    rw [if_neg small] at pe
                    have := nb.2.2 (by omega)
                    have I' := ih (tnx ch n i) (k + 1) (clsL l a t) st' true g2 d3 hs (by omega) nb.2.1 (by omega) (cg1.tr (CR.W s2 (by decide))) (by rw [s2.1 1 (by decide), q1]) (by rw [s2.1 2 (by decide)]; exact r3) (w2 so.1) so.2 eh (by rw [← pe]; exact kb) (by rw [← pe]; exact k0)
                    refine V34d  (s2.SK S1) ?_ ?_ <;> simp (disch := omega) only [oi_l, oi_n, z_nI, nIA, nIM, nIS, nIlt, nIle, nIeq, nIC, vpI, Nat.add_sub_cancel, Nat.not_le, Nat.not_lt, Nat.not_lt_zero, Nat.le_refl, not_true_eq_false, not_false_eq_true, false_imp_iff, true_imp_iff, forall_const, implies_true, Nat.reduceEqDiff, Nat.reduceLeDiff, Nat.reduceLT] <;> first | omega | exact I')
                subst eh
                refine N ?_
                refine V34e  S1 ?_ ?_ ?_ ?_ ?_ ?_ <;> simp (disch := omega) only [oi_l, oi_n, z_nI, nIA, nIM, nIS, nIlt, nIle, nIeq, nIC, vpI, Nat.add_sub_cancel, Nat.not_le, Nat.not_lt, Nat.not_lt_zero, Nat.le_refl, not_true_eq_false, not_false_eq_true, false_imp_iff, true_imp_iff, forall_const, implies_true, Nat.reduceEqDiff, Nat.reduceLeDiff, Nat.reduceLT, r4, r5, r6', q4', ↓reduceIte, eq_true (show 0 < st'.length + 1 by omega)] <;> first | omega | exact A'
              | false =>
                have k' := bad (by rw [pe, if_neg (fun q => by cases q.2), c2])
                subst eh
                refine N ?_
                refine V34e  S1 ?_ ?_ ?_ ?_ ?_ ?_ <;> simp (disch := omega) only [oi_l, oi_n, z_nI, nIA, nIM, nIS, nIlt, nIle, nIeq, nIC, vpI, Nat.add_sub_cancel, Nat.not_le, Nat.not_lt, Nat.not_lt_zero, Nat.le_refl, not_true_eq_false, not_false_eq_true, false_imp_iff, true_imp_iff, forall_const, implies_true, Nat.reduceEqDiff, Nat.reduceLeDiff, Nat.reduceLT, r4, r5, r6', q4', ↓reduceIte, Bool.false_eq_true, eq_true (show 0 < st'.length + 1 by omega)] <;> (try omega)
                refine V34f  S1 ?_ ?_ ?_ ?_ ?_ ?_ ?_ ?_ ?_ ?_ <;> simp (disch := omega) only [oi_l, oi_n, z_nI, nIA, nIM, nIS, nIlt, nIle, nIeq, nIC, vpI, Nat.add_sub_cancel, Nat.not_le, Nat.not_lt, Nat.not_lt_zero, Nat.le_refl, not_true_eq_false, not_false_eq_true, false_imp_iff, true_imp_iff, forall_const, implies_true, Nat.reduceEqDiff, Nat.reduceLeDiff, Nat.reduceLT, r4, r5, r6', q4', ↓reduceIte, Bool.false_eq_true, eq_true (show 0 < st'.length + 1 by omega)] <;> first | omega | exact k'
            · have k' := bad (by rw [pe, if_neg (fun q => v41 q.1.2), c2])
              by_cases v59 : tvl ch n i = 59
              · rw [v59] at r6'
                refine N ?_
                refine V34e  S1 ?_ ?_ ?_ ?_ ?_ ?_ <;> simp (disch := omega) only [oi_l, oi_n, z_nI, nIA, nIM, nIS, nIlt, nIle, nIeq, nIC, vpI, Nat.add_sub_cancel, Nat.not_le, Nat.not_lt, Nat.not_lt_zero, Nat.le_refl, not_true_eq_false, not_false_eq_true, false_imp_iff, true_imp_iff, forall_const, implies_true, Nat.reduceEqDiff, Nat.reduceLeDiff, Nat.reduceLT, r4, r5, r6', q4', Nat.succ_ne_zero] <;> (try omega)
                refine V34f  S1 ?_ ?_ ?_ ?_ ?_ ?_ ?_ ?_ ?_ ?_ <;> simp (disch := omega) only [oi_l, oi_n, z_nI, nIA, nIM, nIS, nIlt, nIle, nIeq, nIC, vpI, Nat.add_sub_cancel, Nat.not_le, Nat.not_lt, Nat.not_lt_zero, Nat.le_refl, not_true_eq_false, not_false_eq_true, false_imp_iff, true_imp_iff, forall_const, implies_true, Nat.reduceEqDiff, Nat.reduceLeDiff, Nat.reduceLT, r4, r5, r6', q4', Nat.succ_ne_zero] <;> first | omega | exact k'
              · refine N ?_
                refine V34e  S1 ?_ ?_ ?_ ?_ ?_ ?_ <;> simp (disch := omega) only [oi_l, oi_n, z_nI, nIA, nIM, nIS, nIlt, nIle, nIeq, nIC, vpI, Nat.add_sub_cancel, Nat.not_le, Nat.not_lt, Nat.not_lt_zero, Nat.le_refl, not_true_eq_false, not_false_eq_true, false_imp_iff, true_imp_iff, forall_const, implies_true, Nat.reduceEqDiff, Nat.reduceLeDiff, Nat.reduceLT, r4, r5, r6', q4', v59, v41] <;> (try omega)
                refine V34f  S1 ?_ ?_ ?_ ?_ ?_ ?_ ?_ ?_ ?_ ?_ <;> simp (disch := omega) only [oi_l, oi_n, z_nI, nIA, nIM, nIS, nIlt, nIle, nIeq, nIC, vpI, Nat.add_sub_cancel, Nat.not_le, Nat.not_lt, Nat.not_lt_zero, Nat.le_refl, not_true_eq_false, not_false_eq_true, false_imp_iff, true_imp_iff, forall_const, implies_true, Nat.reduceEqDiff, Nat.reduceLeDiff, Nat.reduceLT, r4, r5, r6', q4', v59, v41] <;> first | omega | exact k'
        · have k' := bad (by
            rw [pe]
            cases st with
            | nil => exact if_neg (fun q => k3 q.1.1)
            | cons x st' => exact if_neg (fun q => k3 q.1.1))
          by_cases k4 : tkd ch n i = 4
          · have c1 : cs1 ch n i = 1 := by unfold cs1; rw [if_pos k4]
            rw [c1] at k'
            rw [k4] at r4
            refine N ?_
            refine V34e  S1 ?_ ?_ ?_ ?_ ?_ ?_ <;> simp (disch := omega) only [oi_l, oi_n, z_nI, nIA, nIM, nIS, nIlt, nIle, nIeq, nIC, vpI, Nat.add_sub_cancel, Nat.not_le, Nat.not_lt, Nat.not_lt_zero, Nat.le_refl, not_true_eq_false, not_false_eq_true, false_imp_iff, true_imp_iff, forall_const, implies_true, Nat.reduceEqDiff, Nat.reduceLeDiff, Nat.reduceLT, r4, r5] <;> (try omega)
            refine V34f  S1 ?_ ?_ ?_ ?_ ?_ ?_ ?_ ?_ ?_ ?_ <;> simp (disch := omega) only [oi_l, oi_n, z_nI, nIA, nIM, nIS, nIlt, nIle, nIeq, nIC, vpI, Nat.add_sub_cancel, Nat.not_le, Nat.not_lt, Nat.not_lt_zero, Nat.le_refl, not_true_eq_false, not_false_eq_true, false_imp_iff, true_imp_iff, forall_const, implies_true, Nat.reduceEqDiff, Nat.reduceLeDiff, Nat.reduceLT, r4, r5] <;> first | omega | exact k'
          · have c1 : cs1 ch n i = 2 := by unfold cs1; rw [if_neg k4]
            rw [c1] at k'
            by_cases k1 : tkd ch n i = 1
            · have vb := (tk1w k1).2.2.1
              rw [k1] at r4
              have v8 : ¬ tvl ch n i < 8 := fun q => cA ⟨k1, q⟩
              have v28 : ¬ tvl ch n i = 28 := fun q => cB (Or.inr ⟨k1, q⟩)
              refine N ?_
              refine V34e  S1 ?_ ?_ ?_ ?_ ?_ ?_ <;> simp (disch := omega) only [oi_l, oi_n, z_nI, nIA, nIM, nIS, nIlt, nIle, nIeq, nIC, vpI, Nat.add_sub_cancel, Nat.not_le, Nat.not_lt, Nat.not_lt_zero, Nat.le_refl, not_true_eq_false, not_false_eq_true, false_imp_iff, true_imp_iff, forall_const, implies_true, Nat.reduceEqDiff, Nat.reduceLeDiff, Nat.reduceLT, r4, r5] <;> (try omega)
              refine V34f  S1 ?_ ?_ ?_ ?_ ?_ ?_ ?_ ?_ ?_ ?_ <;> simp (disch := omega) only [oi_l, oi_n, z_nI, nIA, nIM, nIS, nIlt, nIle, nIeq, nIC, vpI, Nat.add_sub_cancel, Nat.not_le, Nat.not_lt, Nat.not_lt_zero, Nat.le_refl, not_true_eq_false, not_false_eq_true, false_imp_iff, true_imp_iff, forall_const, implies_true, Nat.reduceEqDiff, Nat.reduceLeDiff, Nat.reduceLT, r4, r5] <;> first | omega | exact k'
            · refine N ?_
              refine V34e  S1 ?_ ?_ ?_ ?_ ?_ ?_ <;> simp (disch := omega) only [oi_l, oi_n, z_nI, nIA, nIM, nIS, nIlt, nIle, nIeq, nIC, vpI, Nat.add_sub_cancel, Nat.not_le, Nat.not_lt, Nat.not_lt_zero, Nat.le_refl, not_true_eq_false, not_false_eq_true, false_imp_iff, true_imp_iff, forall_const, implies_true, Nat.reduceEqDiff, Nat.reduceLeDiff, Nat.reduceLT, r4, r5, k1, k2, k3, k4] <;> (try omega)
              refine V34f  S1 ?_ ?_ ?_ ?_ ?_ ?_ ?_ ?_ ?_ ?_ <;> simp (disch := omega) only [oi_l, oi_n, z_nI, nIA, nIM, nIS, nIlt, nIle, nIeq, nIC, vpI, Nat.add_sub_cancel, Nat.not_le, Nat.not_lt, Nat.not_lt_zero, Nat.le_refl, not_true_eq_false, not_false_eq_true, false_imp_iff, true_imp_iff, forall_const, implies_true, Nat.reduceEqDiff, Nat.reduceLeDiff, Nat.reduceLT, r4, r5, k1, k2, k3, k4] <;> first | omega | exact k'

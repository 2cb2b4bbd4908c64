/-! readParts and readCloth of the class -/
section CC3
variable {h : pm_H} {Q : Option Value → pm_H → Prop} {ch : Nat → Nat} {n i b q nm : Nat} {S : List BkS} {C : List BkC}
set_option maxHeartbeats 2000000 in
theorem c38L (K : SK h) (b76 : 76 ≤ b) (bq : b + 2 < q) (hz : zn h = q) (hb : atB h b (S, C)) (r0 : zR h b 0 = some (b + 1)) (s12 : S.length ≤ 12) (hS : ∀ s ∈ S, s.1 < 26) (dS : dif (nmS S) S.length) (hn : n ≤ 800) (e2 : zI h 2 2 = nI n) (hch : CH h 3 ch n) :
    ∀ f i (ps : List BkP) (g : pm_H), n < i + f → i ≤ n → ps.length ≤ 12 → Lw q h g → zI g 5 = zI h 5 → zI g 1 = zI h 1 → zI g 2 3 = nI i → atC g (b + 1) S q (nm, ps) → zR g q 1 = some (q + 1) → zn g = zn h + 2 + ps.length → zk g = zk h + 15 + 4 * ps.length →
      (∀ k p, prt ch n S f i ps = .inl (k, p) → ∀ g, Lw q h g → zI g 5 = zI h 5 → zI g 1 1 = nI k → zI g 1 2 = nI p → zn g ≤ zn h + 14 → zk g ≤ zk h + 63 → Q (some (.int (Int32.ofInt 0))) g) →
      (∀ j ps', prt ch n S f i ps = .inr (j, ps') → ∀ g, Lw q h g → zI g 5 = zI h 5 → zI g 1 = zI h 1 → zI g 2 3 = nI j → atC g (b + 1) S q (nm, ps') → zn g ≤ zn h + 14 → zk g ≤ zk h + 63 → Q (some (.int (Int32.ofInt 1))) g) →
      WP 38 2 [some (.ref 1), some (.ref b), some (.ref q), some (.int (nI ps.length))] [] g Q := by
  intro f
  induction f with
  | zero => intro i ps g h1 h2; omega
  | succ f ih =>
    intro i ps g h1 h2 p12 lw g5 g1 f3 hq rq zg zgk kb k0
    have jb := jt_b (ch := ch) h2
    have nb := tnx_b (ch := ch) jb.2
    have pb := tpl_b (ch := ch) jb.2
    have nbi := tnx_b (ch := ch) h2
    have pbi := tpl_b (ch := ch) h2
    have t4 := tk_le (ch := ch) (n := n) (i := i)
    have Kg := lw.SK (by omega) K
    have hcg : CH g 3 ch n := hch.keep (lw.1 3 (by omega) (by decide))
    have r0g : ∀ g', Lw q h g' → zR g' b 0 = some (b + 1) := fun g' l => by rw [(l.2.1 b (by omega)).2.2]; exact r0
    have e2g : ∀ g', Lw q h g' → zI g' 2 2 = nI n := fun g' l => by rw [l.2.2.1 2 (by decide)]; exact e2
    refine V38L  Kg ?_ ?_ <;> simp (disch := omega) only [oi_l, oi_n, z_nI, nIA, nIM, nIS, nIlt, nIle, nIeq, nIC, vpI, Nat.add_sub_cancel, Nat.not_le, Nat.not_lt, Nat.not_lt_zero, Nat.le_refl, not_true_eq_false, not_false_eq_true, false_imp_iff, true_imp_iff, forall_const, implies_true, Nat.reduceEqDiff, Nat.reduceLeDiff, Nat.reduceLT, show ¬ 12 < ps.length by omega] <;> (try omega)
    refine c66 Kg hn h2 (e2g g lw) f3 hcg (fun g2 t2 x3 x4 x5 x6 => ?_)
    have l2 : Lw q h g2 := lw.tr (Lw.C (CR.T t2))
    have K2 := l2.SK (by omega) K
    have hb2 : atB g2 b (S, C) := hb.keep (l2.D (by omega) (by omega))
    have dsa : dyn g (b + 1) := by
      obtain ⟨k1, k2, k3, k4, sa, ca, k5, k6, k7, k8, k9, -⟩ := hb.keep (lw.D (by omega) (by omega))
      have := r0g g lw
      have esa : sa = b + 1 := by rw [k5] at this; injection this
      rw [← esa]; exact k6
    have hq2 : atC g2 (b + 1) S q (nm, ps) := hq.keep (t2.1.D (by decide)) dsa
    have rq2 : zR g2 q 1 = some (q + 1) := by rw [t2.1.2.2.2.1]; exact rq
    have y5 : zI g2 5 = zI h 5 := by rw [t2.1.1 5 (by decide)]; exact g5
    have y1 : zI g2 1 = zI h 1 := by rw [t2.1.1 1 (by decide)]; exact g1
    have zg2 : zn g2 = zn h + 2 + ps.length := by rw [t2.1.2.2.2.2.2.1]; exact zg
    have zk2 : zk g2 = zk h + 15 + 4 * ps.length := by rw [t2.1.2.2.2.2.2.2]; exact zgk
    -- a fault that leaves reading's rows alone
    have ft : ∀ k p, prt ch n S (f + 1) i ps = .inl (k, p) → ∀ g3, CF g2 g3 → zI g3 1 1 = nI k → zI g3 1 2 = nI p → Q (some (.int (Int32.ofInt 0))) g3 := fun k p e g3 cf b1 b2 => kb k p e g3 (l2.tr (Lw.C cf.C)) (by rw [cf.1.1 5 (by decide)]; exact y5) b1 b2 (by rw [cf.1.2.2.2.2.2.1]; omega) (by rw [cf.1.2.2.2.2.2.2]; omega)
    have fF : ∀ k p, prt ch n S (f + 1) i ps = .inl (k, p) → Q (some (.int (Int32.ofInt 0))) (yI (yI g2 1 1 (nI k)) 1 2 (nI p)) := fun k p e => ft k p e _ (((CF.T TpS.rf).F 1 _).F 2 _) (by simp [zI_yI, va_upA]) (by simp [zI_yI, va_upA])
    by_cases kk : isN ch n i ∨ isT ch n i
    · have tz : zT g2 q = 3 := hq2.2.1
      have tI : zI g2 q 2 = nI ps.length := hq2.2.2.2.1
      have k1 : tkd ch n i = 1 := by rcases kk with k | k <;> exact k.1
      have tw := tk1w k1
      have tl := tk1l k1
      have B' : WP 38 42 [some (.ref 1), some (.ref b), some (.ref q), some (.int (nI ps.length))] [] g2 Q := by
        by_cases full : 12 ≤ ps.length
        · have k' := fF 3 (tpl ch n i) (by rw [prt, if_neg (fun q => q kk), if_pos full])
          refine V38b  K2 ?_ ?_ ?_ <;> simp (disch := omega) only [oi_l, oi_n, z_nI, nIA, nIM, nIS, nIlt, nIle, nIeq, nIC, vpI, Nat.add_sub_cancel, Nat.not_le, Nat.not_lt, Nat.not_lt_zero, Nat.le_refl, not_true_eq_false, not_false_eq_true, false_imp_iff, true_imp_iff, forall_const, implies_true, Nat.reduceEqDiff, Nat.reduceLeDiff, Nat.reduceLT, tz, tI, x5, show ¬ ps.length < 12 by omega] <;> first | omega | exact k'
        · have pe : prt ch n S (f + 1) i ps = match prp ch n S (decide (isT ch n i)) (jt ch n i) (tnx ch n (jt ch n i)) with
              | .inl e => .inl e
              | .inr (m, p) => if isg ch n 59 m then .inr (tnx ch n m, ps ++ [p]) else if isg ch n 44 m then prt ch n S f (tnx ch n m) (ps ++ [p]) else .inl (wrg ch n m) := by
            rw [prt, if_neg (fun q => q kk), if_neg full]
            generalize prp ch n S (decide (isT ch n i)) (jt ch n i) (tnx ch n (jt ch n i)) = r
            rcases r with e | ⟨m, p⟩ <;> rfl
          have C' : WP 39 0 [some (.ref 1), some (.ref b), some (.ref q), none, none, none, none] [] g2 (fun v1 h1 => WP 38 63 [some (.ref 1), some (.ref b), some (.ref q), some (.int (nI ps.length))] (v1.toList ++ []) h1 Q) := by
            refine c39 (C := C) K2 b76 bq hb2 (r0g g2 l2) hq2 rq2 (by omega) s12 hS dS hn h2 (e2g g2 l2) ⟨x3, x4, x5, x6⟩ kk (hch.keep (l2.1 3 (by omega) (by decide))) (fun k p e g3 cf b1 b2 => ?_) (fun m p e g3 l3 z5 z1 cm hq3 rq3 zn3 zk3 => ?_)
            · have k' := ft k p (by rw [pe, e]) g3 cf b1 b2
              refine V38c  (cf.1.SK K2) ?_ ?_ ?_ ?_ ?_ ?_ ?_ ?_ ?_ ?_ ?_ ?_ ?_ ?_ ?_ <;> simp (disch := omega) only [oi_l, oi_n, z_nI, nIA, nIM, nIS, nIlt, nIle, nIeq, nIC, vpI, Nat.add_sub_cancel, Nat.not_le, Nat.not_lt, Nat.not_lt_zero, Nat.le_refl, not_true_eq_false, not_false_eq_true, false_imp_iff, true_imp_iff, forall_const, implies_true, Nat.reduceEqDiff, Nat.reduceLeDiff, Nat.reduceLT] <;> first | omega | exact k'
            · rw [e] at pe
              simp only at pe
              have l3' : Lw q h g3 := l2.tr l3
              have K3 := l3'.SK (by omega) K
              obtain ⟨w3, w4, w5, w6⟩ := id cm
              obtain ⟨o1, o2, o3, o4, o5⟩ := prp_ok nb.2.1 e
              have nbm := tnx_b (ch := ch) o2
              have pbm := tpl_b (ch := ch) o2
              have prog := nb.2.2 (by rw [o5.1]; decide)
              have tm := tk_le (ch := ch) (n := n) (i := m)
              have len : (ps ++ [p]).length = ps.length + 1 := by simp
              by_cases k3 : tkd ch n m = 3
              · have w6' := ct_s w6 k3
                have mt3 := tk3 k3
                have vb := tv_b k3
                by_cases v59 : tvl ch n m = 59
                · rw [if_pos ⟨k3, v59⟩] at pe
                  have k' := k0 _ _ pe g3 l3' (by rw [z5]; exact y5) (by rw [z1]; exact y1) w3 hq3 (by omega) (by omega)
                  rw [k3] at w4; rw [v59] at w6'
                  refine V38c  K3 ?_ ?_ ?_ ?_ ?_ ?_ ?_ ?_ ?_ ?_ ?_ ?_ ?_ ?_ ?_ <;> simp (disch := omega) only [oi_l, oi_n, z_nI, nIA, nIM, nIS, nIlt, nIle, nIeq, nIC, vpI, Nat.add_sub_cancel, Nat.not_le, Nat.not_lt, Nat.not_lt_zero, Nat.le_refl, not_true_eq_false, not_false_eq_true, false_imp_iff, true_imp_iff, forall_const, implies_true, Nat.reduceEqDiff, Nat.reduceLeDiff, Nat.reduceLT, w4, w5, w6'] <;> first | omega | exact k'
                · rw [if_neg (fun q => v59 q.2)] at pe
                  by_cases v44 : tvl ch n m = 44
                  · rw [if_pos ⟨k3, v44⟩] at pe
                    have I' := ih (tnx ch n m) (ps ++ [p]) g3 (by omega) nbm.2.1 (by rw [len]; omega) l3' (by rw [z5]; exact y5) (by rw [z1]; exact y1) w3 hq3 rq3 (by rw [len]; omega) (by rw [len]; omega) (by rw [← pe]; exact kb) (by rw [← pe]; exact k0)
                    rw [len] at I'
                    rw [k3] at w4; rw [v44] at w6'
                    refine V38c  K3 ?_ ?_ ?_ ?_ ?_ ?_ ?_ ?_ ?_ ?_ ?_ ?_ ?_ ?_ ?_ <;> simp (disch := omega) only [oi_l, oi_n, z_nI, nIA, nIM, nIS, nIlt, nIle, nIeq, nIC, vpI, Nat.add_sub_cancel, Nat.not_le, Nat.not_lt, Nat.not_lt_zero, Nat.le_refl, not_true_eq_false, not_false_eq_true, false_imp_iff, true_imp_iff, forall_const, implies_true, Nat.reduceEqDiff, Nat.reduceLeDiff, Nat.reduceLT, w4, w5, w6'] <;> first | omega | exact I'
                  · rw [if_neg (fun q => v44 q.2)] at pe
                    have k' := kb _ _ pe (yI (yI g3 1 1 (nI 2)) 1 2 (nI (tpl ch n m))) (l3'.tr (Lw.C (((CR.rf).F 1 _).F 2 _))) (by simp only [zI_yI, Nat.reduceEqDiff, if_false]; rw [z5]; exact y5) (by unfold cs1; rw [if_neg (by omega)]; simp [zI_yI, va_upA]) (by simp [zI_yI, va_upA]) (by rw [zn_yI, zn_yI]; omega) (by rw [zk_yI, zk_yI]; omega)
                    rw [k3] at w4
                    refine V38c  K3 ?_ ?_ ?_ ?_ ?_ ?_ ?_ ?_ ?_ ?_ ?_ ?_ ?_ ?_ ?_ <;> simp (disch := omega) only [oi_l, oi_n, z_nI, nIA, nIM, nIS, nIlt, nIle, nIeq, nIC, vpI, Nat.add_sub_cancel, Nat.not_le, Nat.not_lt, Nat.not_lt_zero, Nat.le_refl, not_true_eq_false, not_false_eq_true, false_imp_iff, true_imp_iff, forall_const, implies_true, Nat.reduceEqDiff, Nat.reduceLeDiff, Nat.reduceLT, w4, w5, w6', v59, v44] <;> first | omega | exact k'
              · rw [if_neg (fun q => k3 q.1), if_neg (fun q => k3 q.1)] at pe
                have bad : ∀ k, k = cs1 ch n m → Q (some (.int (Int32.ofInt 0))) (yI (yI g3 1 1 (nI k)) 1 2 (nI (tpl ch n m))) := fun k ek => kb k (tpl ch n m) (by rw [pe, ek]) (yI (yI g3 1 1 (nI k)) 1 2 (nI (tpl ch n m))) (l3'.tr (Lw.C (((CR.rf).F 1 _).F 2 _))) (by simp only [zI_yI, Nat.reduceEqDiff, if_false]; rw [z5]; exact y5) (by simp [zI_yI, va_upA]) (by simp [zI_yI, va_upA]) (by rw [zn_yI, zn_yI]; omega) (by rw [zk_yI, zk_yI]; omega)
                by_cases k4 : tkd ch n m = 4
                · have k' := bad 1 (by unfold cs1; rw [if_pos k4])
                  rw [k4] at w4
                  refine V38c  K3 ?_ ?_ ?_ ?_ ?_ ?_ ?_ ?_ ?_ ?_ ?_ ?_ ?_ ?_ ?_ <;> simp (disch := omega) only [oi_l, oi_n, z_nI, nIA, nIM, nIS, nIlt, nIle, nIeq, nIC, vpI, Nat.add_sub_cancel, Nat.not_le, Nat.not_lt, Nat.not_lt_zero, Nat.le_refl, not_true_eq_false, not_false_eq_true, false_imp_iff, true_imp_iff, forall_const, implies_true, Nat.reduceEqDiff, Nat.reduceLeDiff, Nat.reduceLT, w4, w5] <;> first | omega | exact k'
                · have k' := bad 2 (by unfold cs1; rw [if_neg k4])
                  refine V38c  K3 ?_ ?_ ?_ ?_ ?_ ?_ ?_ ?_ ?_ ?_ ?_ ?_ ?_ ?_ ?_ <;> simp (disch := omega) only [oi_l, oi_n, z_nI, nIA, nIM, nIS, nIlt, nIle, nIeq, nIC, vpI, Nat.add_sub_cancel, Nat.not_le, Nat.not_lt, Nat.not_lt_zero, Nat.le_refl, not_true_eq_false, not_false_eq_true, false_imp_iff, true_imp_iff, forall_const, implies_true, Nat.reduceEqDiff, Nat.reduceLeDiff, Nat.reduceLT, w4, w5, k3, k4] <;> first | omega | exact k'
          refine V38b  K2 ?_ ?_ ?_ <;> simp (disch := omega) only [oi_l, oi_n, z_nI, nIA, nIM, nIS, nIlt, nIle, nIeq, nIC, vpI, Nat.add_sub_cancel, Nat.not_le, Nat.not_lt, Nat.not_lt_zero, Nat.le_refl, not_true_eq_false, not_false_eq_true, false_imp_iff, true_imp_iff, forall_const, implies_true, Nat.reduceEqDiff, Nat.reduceLeDiff, Nat.reduceLT, tz, tI, show ps.length < 12 by omega] <;> first | omega | exact C'
      by_cases v26 : tvl ch n i < 26
      · have l1 := tw.1.mp v26
        rw [k1] at x4
        refine V38a  K2 ?_ ?_ ?_ <;> simp (disch := omega) only [oi_l, oi_n, z_nI, nIA, nIM, nIS, nIlt, nIle, nIeq, nIC, vpI, Nat.add_sub_cancel, Nat.not_le, Nat.not_lt, Nat.not_lt_zero, Nat.le_refl, not_true_eq_false, not_false_eq_true, false_imp_iff, true_imp_iff, forall_const, implies_true, Nat.reduceEqDiff, Nat.reduceLeDiff, Nat.reduceLT, x3, x4, x5, eq_true l1] <;> first | omega | exact B'
      · have v28 : tvl ch n i = 28 := by rcases kk with k | k; · exact absurd k.2 v26
                                         · exact k.2
        have l1 : ¬ tnx ch n i - tpl ch n i = 1 := fun q => v26 (tw.1.mpr q)
        have Z' : WP 68 0 [some (.ref 2), some (.retAddr 2), none] [] g2 (fun v1 h1 => WP 38 34 [some (.ref 1), some (.ref b), some (.ref q), some (.int (nI ps.length))] (v1.toList ++ []) h1 Q) := c68t K2 hn ⟨nbi.1, nbi.2.1⟩ (by decide) ⟨x3, x4, x5, x6⟩ (by
          rw [if_pos ⟨k1, v28⟩]
          refine V38z  K2 ?_ ?_ ?_ <;> simp (disch := omega) only [oi_l, oi_n, z_nI, nIA, nIM, nIS, nIlt, nIle, nIeq, nIC, vpI, Nat.add_sub_cancel, Nat.not_le, Nat.not_lt, Nat.not_lt_zero, Nat.le_refl, not_true_eq_false, not_false_eq_true, false_imp_iff, true_imp_iff, forall_const, implies_true, Nat.reduceEqDiff, Nat.reduceLeDiff, Nat.reduceLT] <;> first | omega | exact B')
        rw [k1] at x4
        refine V38a  K2 ?_ ?_ ?_ <;> simp (disch := omega) only [oi_l, oi_n, z_nI, nIA, nIM, nIS, nIlt, nIle, nIeq, nIC, vpI, Nat.add_sub_cancel, Nat.not_le, Nat.not_lt, Nat.not_lt_zero, Nat.le_refl, not_true_eq_false, not_false_eq_true, false_imp_iff, true_imp_iff, forall_const, implies_true, Nat.reduceEqDiff, Nat.reduceLeDiff, Nat.reduceLT, x3, x4, x5, l1] <;> first | omega | exact Z'
    · have pe : prt ch n S (f + 1) i ps = .inl (wrg ch n i) := by rw [prt, if_pos kk]
      by_cases k4 : tkd ch n i = 4
      · have k' := fF 1 (tpl ch n i) (by rw [pe]; unfold wrg cs1; rw [if_pos k4])
        have Z' : WP 68 0 [some (.ref 2), some (.retAddr 2), none] [] g2 (fun v1 h1 => WP 38 34 [some (.ref 1), some (.ref b), some (.ref q), some (.int (nI ps.length))] (v1.toList ++ []) h1 Q) := c68t K2 hn ⟨nbi.1, nbi.2.1⟩ (by decide) ⟨x3, x4, x5, x6⟩ (by
          rw [if_neg (fun q => kk (Or.inr ⟨q.1, q.2⟩))]
          refine V38z  K2 ?_ ?_ ?_ <;> simp (disch := omega) only [oi_l, oi_n, z_nI, nIA, nIM, nIS, nIlt, nIle, nIeq, nIC, vpI, Nat.add_sub_cancel, Nat.not_le, Nat.not_lt, Nat.not_lt_zero, Nat.le_refl, not_true_eq_false, not_false_eq_true, false_imp_iff, true_imp_iff, forall_const, implies_true, Nat.reduceEqDiff, Nat.reduceLeDiff, Nat.reduceLT, x4, x5, eq_true k4] <;> first | omega | exact k')
        rw [k4] at x4
        refine V38a  K2 ?_ ?_ ?_ <;> simp (disch := omega) only [oi_l, oi_n, z_nI, nIA, nIM, nIS, nIlt, nIle, nIeq, nIC, vpI, Nat.add_sub_cancel, Nat.not_le, Nat.not_lt, Nat.not_lt_zero, Nat.le_refl, not_true_eq_false, not_false_eq_true, false_imp_iff, true_imp_iff, forall_const, implies_true, Nat.reduceEqDiff, Nat.reduceLeDiff, Nat.reduceLT, x4, x5] <;> first | omega | exact Z'
      · have k' := fF 2 (tpl ch n i) (by rw [pe]; unfold wrg cs1; rw [if_neg k4])
        have Z' : WP 68 0 [some (.ref 2), some (.retAddr 2), none] [] g2 (fun v1 h1 => WP 38 34 [some (.ref 1), some (.ref b), some (.ref q), some (.int (nI ps.length))] (v1.toList ++ []) h1 Q) := c68t K2 hn ⟨nbi.1, nbi.2.1⟩ (by decide) ⟨x3, x4, x5, x6⟩ (by
          rw [if_neg (fun q => kk (Or.inr ⟨q.1, q.2⟩))]
          refine V38z  K2 ?_ ?_ ?_ <;> simp (disch := omega) only [oi_l, oi_n, z_nI, nIA, nIM, nIS, nIlt, nIle, nIeq, nIC, vpI, Nat.add_sub_cancel, Nat.not_le, Nat.not_lt, Nat.not_lt_zero, Nat.le_refl, not_true_eq_false, not_false_eq_true, false_imp_iff, true_imp_iff, forall_const, implies_true, Nat.reduceEqDiff, Nat.reduceLeDiff, Nat.reduceLT, x4, x5, k4] <;> first | omega | exact k')
        by_cases k1 : tkd ch n i = 1
        · have tl := tk1l k1
          have l1 : ¬ tnx ch n i - tpl ch n i = 1 := fun q => kk (Or.inl ⟨k1, (tk1w k1).1.mpr q⟩)
          rw [k1] at x4
          refine V38a  K2 ?_ ?_ ?_ <;> simp (disch := omega) only [oi_l, oi_n, z_nI, nIA, nIM, nIS, nIlt, nIle, nIeq, nIC, vpI, Nat.add_sub_cancel, Nat.not_le, Nat.not_lt, Nat.not_lt_zero, Nat.le_refl, not_true_eq_false, not_false_eq_true, false_imp_iff, true_imp_iff, forall_const, implies_true, Nat.reduceEqDiff, Nat.reduceLeDiff, Nat.reduceLT, x3, x4, x5, l1] <;> first | omega | exact Z'
        · refine V38a  K2 ?_ ?_ ?_ <;> simp (disch := omega) only [oi_l, oi_n, z_nI, nIA, nIM, nIS, nIlt, nIle, nIeq, nIC, vpI, Nat.add_sub_cancel, Nat.not_le, Nat.not_lt, Nat.not_lt_zero, Nat.le_refl, not_true_eq_false, not_false_eq_true, false_imp_iff, true_imp_iff, forall_const, implies_true, Nat.reduceEqDiff, Nat.reduceLeDiff, Nat.reduceLT, x4, k1] <;> first | omega | exact Z'
theorem c14 {c : BkC} (hb : atB h b (S, C)) (r2 : zR h b 2 = some (b + 2)) (hC : C.length < 6) (tq : zT h q = 3) (k0 : Q none (yI (yR h (b + 2) C.length (some q)) b 3 (nI (C.length + 1)))) : WP 14 0 [some (.ref b), some (.ref q)] [] h Q := by
  obtain ⟨k1, k2, k3, k4, sa, ca, k5, k6, k7, k8, k9, k10, k11, k12, k13, k14⟩ := hb
  have eca : ca = b + 2 := by rw [k9] at r2; injection r2
  subst eca
  have k4' : zI h b 3 = nI C.length := k4
  have k12' : zN h (b + 2) = 6 := k12
  refine B14_0 k2 k9 (by rw [k11]; decide) (fun q => ?_) (fun _ => ?_)
  · exfalso
    rw [k12', k4', oi_n, nIle (by omega) (by omega)] at q
    omega
  · have ec : (nI C.length).toNatClampNeg = C.length := nIC (by omega)
    refine B14_12 k2 k9 ⟨Or.inr (Or.inl k11), by rw [tq, k11]; rfl, by rw [k4', k12', vpI (by omega) (by omega)]; omega⟩ k2 (B14_32 ?_)
    have ez : zI (yR h (b + 2) ((zI h b 3)).toNatClampNeg (some q)) b 3 + Int32.ofInt 1 = nI (C.length + 1) := by
      rw [zI_yR, k4']; exact nIA _ _
    rw [ez, k4', ec]
    exact k0
set_option maxHeartbeats 2000000 in
theorem c37 (K : SK h) (b76 : 76 ≤ b) (bz : b + 3 ≤ zn h) (hb : atB h b (S, C)) (r0 : zR h b 0 = some (b + 1)) (r2 : zR h b 2 = some (b + 2)) (s12 : S.length ≤ 12) (hS : ∀ s ∈ S, s.1 < 26) (dS : dif (nmS S) S.length) (c6 : C.length ≤ 6) (hC : ∀ c ∈ C, c.1 < 26) (dC : dif (nmC C) C.length) (hn : n ≤ 800) (hi : i ≤ n) (e2 : zI h 2 2 = nI n) (ct : CT h ch n i) (hch : CH h 3 ch n) (c5 : C5 h)
    (kb : ∀ k p, rdC ch n S C i (tnx ch n i) (tnx ch n (tnx ch n i)) = .inl (k, p) → ∀ g, Lw b h g → C5 g → zI g 1 1 = nI k → zI g 1 2 = nI p → zn g ≤ zn h + (if C.length < 6 then 14 else 0) → zk g ≤ zk h + (if C.length < 6 then 63 else 0) → Q (some (.int (Int32.ofInt 0))) g)
    (k0 : ∀ j c, rdC ch n S C i (tnx ch n i) (tnx ch n (tnx ch n i)) = .inr (j, c) → ∀ g, Lw b h g → C5 g → zI g 1 = zI h 1 → zI g 2 3 = nI j → atB g b (S, C ++ [c]) → zR g b 0 = some (b + 1) → zR g b 2 = some (b + 2) → zn g ≤ zn h + 14 → zk g ≤ zk h + 63 → Q (some (.int (Int32.ofInt 1))) g) : WP 37 0 [some (.ref 1), some (.ref b), none, none] [] h Q := by
  have nb := tnx_b (ch := ch) hi
  have pb := tpl_b (ch := ch) hi
  have nb2 := tnx_b (ch := ch) nb.2.1
  have pb2 := tpl_b (ch := ch) nb.2.1
  have nb3 := tnx_b (ch := ch) nb2.2.1
  obtain ⟨r3, r4, r5, r6⟩ := ct
  have tb : zT h b = 2 := hb.2.1
  have eb3 : zI h b 3 = nI C.length := hb.2.2.2.1
  have ft : ∀ k p, rdC ch n S C i (tnx ch n i) (tnx ch n (tnx ch n i)) = .inl (k, p) → ∀ g, CF h g → zI g 1 1 = nI k → zI g 1 2 = nI p → Q (some (.int (Int32.ofInt 0))) g := fun k p e g cg f1 f2 => kb k p e g (Lw.C cg.C) (by unfold C5; rw [cg.1.1 5 (by decide)]; exact c5) f1 f2 (by rw [cg.1.2.2.2.2.2.1]; omega) (by rw [cg.1.2.2.2.2.2.2]; omega)
  by_cases full : 6 ≤ C.length
  · have k' := ft 3 (tpl ch n i) (by unfold rdC; rw [if_pos full]) (yI (yI h 1 1 (nI 3)) 1 2 (nI (tpl ch n i))) (((CF.T TpS.rf).F 1 _).F 2 _) (by simp [zI_yI, va_upA]) (by simp [zI_yI, va_upA])
    refine V37  K ?_ ?_ ?_ <;> simp (disch := omega) only [oi_l, oi_n, z_nI, nIA, nIM, nIS, nIlt, nIle, nIeq, nIC, vpI, Nat.add_sub_cancel, Nat.not_le, Nat.not_lt, Nat.not_lt_zero, Nat.le_refl, not_true_eq_false, not_false_eq_true, false_imp_iff, true_imp_iff, forall_const, implies_true, Nat.reduceEqDiff, Nat.reduceLeDiff, Nat.reduceLT, tb, eb3, r5, show ¬ C.length < 6 by omega] <;> first | omega | exact k'
  rw [if_pos (by omega), if_pos (by omega)] at kb
  have A' : WP 40 0 [some (.ref 1)] [] h (fun v1 h1 => WP 37 19 [some (.ref 1), some (.ref b), none, none] (v1.toList ++ []) h1 Q) := by
    refine c40 K hn nb.2.1 e2 r3 hch (fun q g cg f1 f2 => ?_) (fun nm g1 t1 ct1 => ?_)
    · have k' := ft _ _ (by unfold rdC; rw [if_neg full, if_pos q]) g cg f1 f2
      refine V37a  (cg.1.SK K) ?_ ?_ ?_ ?_ ?_ ?_ <;> simp (disch := omega) only [oi_l, oi_n, z_nI, nIA, nIM, nIS, nIlt, nIle, nIeq, nIC, vpI, Nat.add_sub_cancel, Nat.not_le, Nat.not_lt, Nat.not_lt_zero, Nat.le_refl, not_true_eq_false, not_false_eq_true, false_imp_iff, true_imp_iff, forall_const, implies_true, Nat.reduceEqDiff, Nat.reduceLeDiff, Nat.reduceLT] <;> first | omega | exact k'
    obtain ⟨x3, x4, x5, x6⟩ := ct1
    have x6' := ct_l x6 nm.1 nm.2
    have tl := tk1l nm.1
    have S1 := t1.1.SK K
    have cr1 : CR h g1 := CR.T t1
    have hb1 : atB g1 b (S, C) := hb.keep cr1.D
    have C' : WP 18 0 [some (.ref b), some (.int (nI (tvl ch n (tnx ch n i)))), none] [] g1 (fun v1 h1 => WP 37 37 [some (.ref 1), some (.ref b), some (.int (nI (tvl ch n (tnx ch n i)))), none] (v1.toList ++ []) h1 Q) := by
      refine c18 S1 hb1 c6 hC (by omega) dC (fun fn => ?_) (fun s fs => ?_)
      · have z76 := S1.2.2.2
        have zg1 : zn g1 = zn h := t1.1.2.2.2.2.2.1
        have zk1 : zk g1 = zk h := t1.1.2.2.2.2.2.2
        have rb1 : ∀ a, zR g1 a = zR h a := t1.1.2.2.2.1
        have D' : WP 37 47 [some (.ref 1), some (.ref b), some (.int (nI (tvl ch n (tnx ch n i)))), none] [] g1 Q := by
          have fN : Fr g1 (yN g1 3 0 3) := Fr.rf.N _ _ _
          have SN := fN.SK S1
          refine B37_47 ?_
          -- the new cloth
          have f1 : Fr g1 (yN (yI (yN g1 3 0 3) (zn g1) 0 (nI (tvl ch n (tnx ch n i)))) 105 12 12) := (fN.I _ _ _ (Nat.le_refl _)).N _ _ _
          have zn1 : zn (yI (yN g1 3 0 3) (zn g1) 0 (nI (tvl ch n (tnx ch n i)))) = zn g1 + 1 := by rw [zn_yI, zn_yN]
          refine B19_0 (by rw [zT_yN, if_pos rfl]) (by decide) (by rw [zT_yN, zn1, if_neg (by omega), zT_yI, zT_yN, if_pos rfl]) ?_
          rw [zn_yN]
          have e12 : (Int32.ofInt 12).toNatClampNeg = 12 := rfl
          rw [e12]
          refine B19_18 (by rw [zT_yR, zT_yN, zn1, if_neg (by omega), zT_yI, zT_yN, if_pos rfl]) ?_
          have f2 : Fr g1 (yI (yR (yN (yI (yN g1 3 0 3) (zn g1) 0 (nI (tvl ch n (tnx ch n i)))) 105 12 12) (zn g1) 1 (some (zn g1 + 1))) (zn g1) 2 (Int32.ofInt 0)) := (f1.R _ _ _ (Nat.le_refl _)).I _ _ _ (Nat.le_refl _)
          have zn2 : zn (yI (yR (yN (yI (yN g1 3 0 3) (zn g1) 0 (nI (tvl ch n (tnx ch n i)))) 105 12 12) (zn g1) 1 (some (zn g1 + 1))) (zn g1) 2 (Int32.ofInt 0)) = zn g1 + 2 := by rw [zn_yI, zn_yR, zn_yN, zn1]
          have zk2 : zk (yI (yR (yN (yI (yN g1 3 0 3) (zn g1) 0 (nI (tvl ch n (tnx ch n i)))) 105 12 12) (zn g1) 1 (some (zn g1 + 1))) (zn g1) 2 (Int32.ofInt 0)) = zk g1 + 15 := by rw [zk_yI, zk_yR, zk_yN, zk_yI, zk_yN]
          have aC : atC (yI (yR (yN (yI (yN g1 3 0 3) (zn g1) 0 (nI (tvl ch n (tnx ch n i)))) 105 12 12) (zn g1) 1 (some (zn g1 + 1))) (zn g1) 2 (Int32.ofInt 0)) (b + 1) S (zn g1) (tvl ch n (tnx ch n i), []) := by
            have n1 : zn g1 ≠ zn g1 + 1 := by omega
            refine ⟨⟨Or.inr (Or.inr (Or.inr z76)), by rw [zn2]; omega⟩, ?_, ?_, ?_, zn g1 + 1, ?_, ⟨Or.inr (Or.inr (Or.inr (by omega))), by rw [zn2]; omega⟩, ?_, ?_, fun k hk => absurd hk (Nat.not_lt_zero _)⟩
            · rw [zT_yI, zT_yR, zT_yN, zn1, if_neg n1, zT_yI, zT_yN, if_pos rfl]
            · rw [zI_yI, if_pos rfl, va_upA, if_neg (by decide), zI_yR, zI_yN, zn1, if_neg n1, zI_yI, if_pos rfl, va_upA, if_pos rfl]
            · rw [zI_yI, if_pos rfl, va_upA, if_pos rfl]; rfl
            · rw [zR_yI, zR_yR, if_pos rfl, va_upA, if_pos rfl]
            · rw [zT_yI, zT_yR, zT_yN, zn1, if_pos rfl]
            · rw [zN_yI, zN_yR, zN_yN, zn1, if_pos rfl]
          have rC : zR (yI (yR (yN (yI (yN g1 3 0 3) (zn g1) 0 (nI (tvl ch n (tnx ch n i)))) 105 12 12) (zn g1) 1 (some (zn g1 + 1))) (zn g1) 2 (Int32.ofInt 0)) (zn g1) 1 = some (zn g1 + 1) := by rw [zR_yI, zR_yR, if_pos rfl, va_upA, if_pos rfl]
          obtain ⟨g2, eg2⟩ : ∃ g2, g2 = yI (yR (yN (yI (yN g1 3 0 3) (zn g1) 0 (nI (tvl ch n (tnx ch n i)))) 105 12 12) (zn g1) 1 (some (zn g1 + 1))) (zn g1) 2 (Int32.ofInt 0) := ⟨_, rfl⟩
          rw [← eg2] at f2 zn2 zk2 aC rC ⊢
          have K2 := f2.SK S1
          have l2 : Lw (zn g1) g1 g2 := Lw.N f2 (Nat.le_refl _) z76
          have e22 : zI g2 2 = zI g1 2 := (f2.1 2 (by omega)).2.2.1
          refine B37_55 (K2.T 1) ?_
          have up : ∀ g, Lw (zn g1) g1 g → Lw b h g := fun g l => (Lw.C cr1).tr (l.mono (by omega))
          have c5g : ∀ g, zI g 5 = zI g1 5 → C5 g := fun g e => by unfold C5; rw [e, t1.1.1 5 (by decide)]; exact c5
          refine c41 (c := 58) (by decide) K2 hn nb2.2.1 (by rw [e22, t1.2 2 (by decide)]; exact e2) (by rw [e22]; exact x3) (hch.keep (by rw [(f2.1 3 (by omega)).2.2.1]; exact t1.1.1 3 (by decide))) (fun q g cg b1 b2 => ?_) (fun sg g3 t3 ct3 => ?_)
          · have k' := kb _ _ (by unfold rdC; rw [if_neg full, if_neg (fun q => q nm), if_neg (fun q => q fn), if_pos q]) g (up g (l2.tr (Lw.C cg.C))) (c5g g (by rw [cg.1.1 5 (by decide)]; exact (f2.1 5 (by omega)).2.2.1)) b1 b2 (by rw [cg.1.2.2.2.2.2.1]; omega) (by rw [cg.1.2.2.2.2.2.2]; omega)
            refine V37c  (cg.1.SK K2) ?_ ?_ <;> simp (disch := omega) only [oi_l, oi_n, z_nI, nIA, nIM, nIS, nIlt, nIle, nIeq, nIC, vpI, Nat.add_sub_cancel, Nat.not_le, Nat.not_lt, Nat.not_lt_zero, Nat.le_refl, not_true_eq_false, not_false_eq_true, false_imp_iff, true_imp_iff, forall_const, implies_true, Nat.reduceEqDiff, Nat.reduceLeDiff, Nat.reduceLT] <;> first | omega | exact k'
          have l3 : Lw (zn g1) g1 g3 := l2.tr (Lw.C (CR.T t3))
          have K3 := t3.1.SK K2
          have rq : ∀ r, prt ch n S (n + 1) (tnx ch n (tnx ch n (tnx ch n i))) [] = r → rdC ch n S C i (tnx ch n i) (tnx ch n (tnx ch n i)) = match r with | .inl f => .inl f | .inr (j, l) => .inr (j, (tvl ch n (tnx ch n i), l)) := fun r er => by
            unfold rdC; rw [if_neg full, if_neg (fun q => q nm), if_neg (fun q => q fn), if_neg (fun z => z sg), er]
            rcases r with f | ⟨j, l⟩ <;> rfl
          have dsa : dyn g2 (b + 1) := by
            obtain ⟨k1, k2, k3, k4, sa, ca, k5, k6, k7, k8, k9, -⟩ := hb1
            have := r0
            rw [← rb1] at this
            have esa : sa = b + 1 := by rw [k5] at this; injection this
            rw [← esa]; exact k6.up (f2.D S1)
          have E' : WP 38 0 [some (.ref 1), some (.ref b), some (.ref (zn g1)), none] [] g3 (fun v1 h1 => WP 37 71 [some (.ref 1), some (.ref b), some (.int (nI (tvl ch n (tnx ch n i)))), some (.ref (zn g1))] (v1.toList ++ []) h1 Q) := by
            refine V38 K3 ?_
            refine c38L (h := g1) (C := C) (nm := tvl ch n (tnx ch n i)) (q := zn g1) S1 b76 (by omega) rfl hb1 (by rw [rb1]; exact r0) s12 hS dS hn (by rw [t1.2 2 (by decide)]; exact e2) (hch.keep (t1.1.1 3 (by decide))) (n + 1) (tnx ch n (tnx ch n (tnx ch n i))) [] g3 (by omega) nb3.2.1 (by decide) l3 (by rw [t3.1.1 5 (by decide)]; exact (f2.1 5 (by omega)).2.2.1) (by rw [t3.1.1 1 (by decide)]; exact (f2.1 1 (by omega)).2.2.1) ct3.1 (aC.keep (t3.1.D (by decide)) dsa) (by rw [t3.1.2.2.2.1]; exact rC) (by rw [t3.1.2.2.2.2.2.1]; exact zn2) (by rw [t3.1.2.2.2.2.2.2]; exact zk2) (fun k p e g l5 z5 b1 b2 zz zzk => ?_) (fun j ps' e g l5 z5 z1 z3 aq zz zzk => ?_)
            · have k' := kb k p (by rw [rq _ e]) g (up g l5) (c5g g z5) b1 b2 (by omega) (by omega)
              refine V37d  (l5.SK z76 S1) ?_ ?_ ?_ <;> simp (disch := omega) only [oi_l, oi_n, z_nI, nIA, nIM, nIS, nIlt, nIle, nIeq, nIC, vpI, Nat.add_sub_cancel, Nat.not_le, Nat.not_lt, Nat.not_lt_zero, Nat.le_refl, not_true_eq_false, not_false_eq_true, false_imp_iff, true_imp_iff, forall_const, implies_true, Nat.reduceEqDiff, Nat.reduceLeDiff, Nat.reduceLT] <;> first | omega | exact k'
            · have K5 := l5.SK z76 S1
              have hb5 : atB g b (S, C) := hb1.keep (l5.D (Nat.le_refl _) z76)
              have rb5 : zR g b = zR h b := by rw [(l5.2.1 b (by omega)).2.2, rb1]
              have tb5 : zT g b = 2 := hb5.2.1
              have F' : WP 14 0 [some (.ref b), some (.ref (zn g1))] [] g (fun v1 h1 => WP 37 81 [some (.ref 1), some (.ref b), some (.int (nI (tvl ch n (tnx ch n i)))), some (.ref (zn g1))] (v1.toList ++ []) h1 Q) := by
                refine c14 (c := (0, [])) hb5 (by rw [rb5]; exact r2) (by omega) aq.2.1 (B37_81 oi1 (k0 j _ (by rw [rq _ e]) _ (((up g l5).R _ _ _ (by omega)).I _ _ _ (Nat.le_refl _) b76) ?_ ?_ ?_ (hb5.pushC (by rw [rb5]; exact r0) (by rw [rb5]; exact r2) aq) ?_ ?_ ?_ ?_))
                · exact c5g _ (by rw [zI_yI, if_neg (by omega), zI_yR]; exact z5)
                · rw [zI_yI, if_neg (by omega), zI_yR, z1]; exact t1.1.1 1 (by decide)
                · rw [zI_yI, if_neg (by omega), zI_yR]; exact z3
                · rw [zR_yI, zR_yR, if_neg (by omega), rb5]; exact r0
                · rw [zR_yI, zR_yR, if_neg (by omega), rb5]; exact r2
                · rw [zn_yI, zn_yR]; omega
                · rw [zk_yI, zk_yR]; omega
              refine V37d  K5 ?_ ?_ ?_ <;> simp (disch := omega) only [oi_l, oi_n, z_nI, nIA, nIM, nIS, nIlt, nIle, nIeq, nIC, vpI, Nat.add_sub_cancel, Nat.not_le, Nat.not_lt, Nat.not_lt_zero, Nat.le_refl, not_true_eq_false, not_false_eq_true, false_imp_iff, true_imp_iff, forall_const, implies_true, Nat.reduceEqDiff, Nat.reduceLeDiff, Nat.reduceLT, tb5] <;> first | omega | exact F'
          refine V37c  K3 ?_ ?_ <;> simp (disch := omega) only [oi_l, oi_n, z_nI, nIA, nIM, nIS, nIlt, nIle, nIeq, nIC, vpI, Nat.add_sub_cancel, Nat.not_le, Nat.not_lt, Nat.not_lt_zero, Nat.le_refl, not_true_eq_false, not_false_eq_true, false_imp_iff, true_imp_iff, forall_const, implies_true, Nat.reduceEqDiff, Nat.reduceLeDiff, Nat.reduceLT] <;> first | omega | exact E'
        refine V37b  S1 ?_ ?_ <;> simp (disch := omega) only [oi_l, oi_n, z_nI, nIA, nIM, nIS, nIlt, nIle, nIeq, nIC, vpI, Nat.add_sub_cancel, Nat.not_le, Nat.not_lt, Nat.not_lt_zero, Nat.le_refl, not_true_eq_false, not_false_eq_true, false_imp_iff, true_imp_iff, forall_const, implies_true, Nat.reduceEqDiff, Nat.reduceLeDiff, Nat.reduceLT] <;> first | omega | exact D'
      · have k' := ft 5 (tpl ch n (tnx ch n i)) (by unfold rdC; rw [if_neg full, if_neg (fun q => q nm), if_pos (fun q => by rw [q] at fs; cases fs)]) (yI (yI g1 1 1 (nI 5)) 1 2 (nI (tpl ch n (tnx ch n i)))) (((CF.T t1).F 1 _).F 2 _) (by simp [zI_yI, va_upA]) (by simp [zI_yI, va_upA])
        have sb : s < C.length := (fnd_s _ fs).1
        have nm1 : ¬ nI s = Int32.ofInt (-1) := fun q => by
          have := congrArg Int32.toInt q
          rw [nI_i (by omega)] at this
          rw [Int32.toInt_ofInt_of_le (by decide) (by decide)] at this
          omega
        refine V37b  S1 ?_ ?_ <;> simp (disch := omega) only [oi_l, oi_n, z_nI, nIA, nIM, nIS, nIlt, nIle, nIeq, nIC, vpI, Nat.add_sub_cancel, Nat.not_le, Nat.not_lt, Nat.not_lt_zero, Nat.le_refl, not_true_eq_false, not_false_eq_true, false_imp_iff, true_imp_iff, forall_const, implies_true, Nat.reduceEqDiff, Nat.reduceLeDiff, Nat.reduceLT, x5, nm1] <;> first | omega | exact k'
    have tb1 : zT g1 b = 2 := hb1.2.1
    rw [nm.1] at x4
    refine V37a  S1 ?_ ?_ ?_ ?_ ?_ ?_ <;> simp (disch := omega) only [oi_l, oi_n, z_nI, nIA, nIM, nIS, nIlt, nIle, nIeq, nIC, vpI, Nat.add_sub_cancel, Nat.not_le, Nat.not_lt, Nat.not_lt_zero, Nat.le_refl, not_true_eq_false, not_false_eq_true, false_imp_iff, true_imp_iff, forall_const, implies_true, Nat.reduceEqDiff, Nat.reduceLeDiff, Nat.reduceLT, tb1, x4, x5, x6'] <;> first | omega | exact C'
  refine V37  K ?_ ?_ ?_ <;> simp (disch := omega) only [oi_l, oi_n, z_nI, nIA, nIM, nIS, nIlt, nIle, nIeq, nIC, vpI, Nat.add_sub_cancel, Nat.not_le, Nat.not_lt, Nat.not_lt_zero, Nat.le_refl, not_true_eq_false, not_false_eq_true, false_imp_iff, true_imp_iff, forall_const, implies_true, Nat.reduceEqDiff, Nat.reduceLeDiff, Nat.reduceLT, tb, eb3, show C.length < 6 by omega] <;> first | omega | exact A'
end CC3

/-! readPart, readParts, readCloth of the class -/
theorem V15x {h : pm_H} {Q : Option Value → pm_H → Prop} {b : Nat} {s : Int32} {b6 : Nat} {b9 : Nat} (S : SK h) (k2 : (s < 0) → Q (some (.null)) h) (t3 : (¬ s < 0) → zT h b = 2) (t5 : (¬ s < 0) → (s < (zI h b 1)) → zT h b = 2) (e7 : (¬ s < 0) → (s < (zI h b 1)) → zR h b 0 = some b6) (g8 : (¬ s < 0) → (s < (zI h b 1)) → (zT h b6 = 103 ∨ zT h b6 = 104 ∨ zT h b6 = 105) ∧ vp_in s (zN h b6)) (e10 : (¬ s < 0) → (s < (zI h b 1)) → zR h b6 (s).toNatClampNeg = some b9) (k11 : (¬ s < 0) → (s < (zI h b 1)) → Q (some (.ref b9)) h) (k12 : (¬ s < 0) → (¬ s < (zI h b 1)) → Q (some (.null)) h) : WP 15 0 [some (.ref b), some (.int s)] [] h Q :=
  B15_0 (fun c1 => B15_12 (B15_22n (k2 c1))) (fun c1 => B15_4 (t3 c1) (fun c4 => B15_16 (t5 c1 c4) (e7 c1 c4) (g8 c1 c4) (e10 c1 c4) (B15_22 (k11 c1 c4))) (fun c4 => B15_12 (B15_22n (k12 c1 c4))))
section CC2
variable {h : pm_H} {Q : Option Value → pm_H → Prop} {ch : Nat → Nat} {n i b q nm : Nat} {S : List BkS} {C : List BkC} {ps : List BkP}
theorem c15x {s : Nat} (K : SK h) (hb : atB h b (S, C)) (r0 : zR h b 0 = some (b + 1)) (s12 : S.length ≤ 12) (hs : s < S.length) (k : ∀ p, zR h (b + 1) s = some p → Q (some (.ref p)) h) : WP 15 0 [some (.ref b), some (.int (nI s))] [] h Q := by
  obtain ⟨k1, k2, k3, k4, sa, ca, k5, k6, k7, k8, k9, k10, k11, k12, k13, k14⟩ := hb
  have esa : sa = b + 1 := by rw [k5] at r0; injection r0
  subst esa
  obtain ⟨p, q1, q2⟩ := k13 s hs
  have k' := k p q1
  have k3' : zI h b 1 = nI S.length := k3
  refine V15x (b6 := b + 1) (b9 := p) K ?_ ?_ ?_ ?_ ?_ ?_ ?_ ?_ <;> simp (disch := omega) only [oi_l, oi_n, z_nI, nIA, nIM, nIS, nIlt, nIle, nIeq, nIC, vpI, Nat.add_sub_cancel, Nat.not_le, Nat.not_lt, Nat.not_lt_zero, Nat.le_refl, not_true_eq_false, not_false_eq_true, false_imp_iff, true_imp_iff, forall_const, implies_true, Nat.reduceEqDiff, Nat.reduceLeDiff, Nat.reduceLT, k2, k3', k5, k7, k8, q1, eq_true hs, true_or, true_and] <;> first | omega | exact k'
theorem c15m (K : SK h) (k : Q (some .null) h) : WP 15 0 [some (.ref b), some (.int (Int32.ofInt (-1)))] [] h Q := by
  have ng : (Int32.ofInt (-1)) < 0 := by decide
  refine V15x (b6 := 0) (b9 := 0) K ?_ ?_ ?_ ?_ ?_ ?_ ?_ ?_ <;> first | exact fun _ => k | exact fun q => absurd ng q | exact fun q _ => absurd ng q
theorem c20 {w : Nat} (hq : zT h q = 3) (rq : zR h q 1 = some (q + 1)) (hp : zT h (q + 1) = 105) (hN : zN h (q + 1) = 12) (hw : zT h w = 5) (e2 : zI h q 2 = nI ps.length) (p12 : ps.length < 12) (k0 : Q none (yI (yR h (q + 1) ps.length (some w)) q 2 (nI (ps.length + 1)))) : WP 20 0 [some (.ref q), some (.ref w)] [] h Q := by
  refine B20_0 hq rq (by rw [hp]; decide) (fun q => ?_) (fun _ => ?_)
  · exfalso
    rw [hN, e2, oi_n, nIle (by omega) (by omega)] at q
    omega
  · have ec : (nI ps.length).toNatClampNeg = ps.length := nIC (by omega)
    refine B20_12 hq rq ⟨Or.inr (Or.inr hp), by rw [hw, hp]; rfl, by rw [e2, hN, vpI (by omega) (by omega)]; omega⟩ hq (B20_32 ?_)
    have ez : zI (yR h (q + 1) ((zI h q 2)).toNatClampNeg (some w)) q 2 + Int32.ofInt 1 = nI (ps.length + 1) := by
      rw [zI_yR, e2]; exact nIA _ _
    rw [ez, e2, ec]
    exact k0
theorem bI01 (t : Bool) : bI t = 0 ∨ bI t = 1 := by cases t; · exact Or.inl rfl
                                                    · exact Or.inr rfl
set_option maxHeartbeats 2000000 in
theorem c39 (K : SK h) (b76 : 76 ≤ b) (bq : b + 2 < q) (hb : atB h b (S, C)) (r0 : zR h b 0 = some (b + 1)) (hq : atC h (b + 1) S q (nm, ps)) (rq : zR h q 1 = some (q + 1)) (p12 : ps.length < 12) (s12 : S.length ≤ 12) (hS : ∀ s ∈ S, s.1 < 26) (dS : dif (nmS S) S.length) (hn : n ≤ 800) (hi : i ≤ n) (e2 : zI h 2 2 = nI n) (ct : CT h ch n i) (kk : isN ch n i ∨ isT ch n i) (hch : CH h 3 ch n)
    (kb : ∀ k p, prp ch n S (decide (isT ch n i)) (jt ch n i) (tnx ch n (jt ch n i)) = .inl (k, p) → ∀ g, CF h g → zI g 1 1 = nI k → zI g 1 2 = nI p → Q (some (.int (Int32.ofInt 0))) g)
    (k0 : ∀ m p, prp ch n S (decide (isT ch n i)) (jt ch n i) (tnx ch n (jt ch n i)) = .inr (m, p) → ∀ g, Lw q h g → zI g 5 = zI h 5 → zI g 1 = zI h 1 → CT g ch n m → atC g (b + 1) S q (nm, ps ++ [p]) → zR g q 1 = some (q + 1) → zn g = zn h + 1 → zk g = zk h + 4 → Q (some (.int (Int32.ofInt 1))) g) : WP 39 0 [some (.ref 1), some (.ref b), some (.ref q), none, none, none, none] [] h Q := by
  have jb := jt_b (ch := ch) hi
  have nb := tnx_b (ch := ch) jb.2
  have pb := tpl_b (ch := ch) jb.2
  have nb2 := tnx_b (ch := ch) nb.2.1
  have pb2 := tpl_b (ch := ch) nb.2.1
  have nb3 := tnx_b (ch := ch) nb2.2.1
  obtain ⟨r3, r4, r5, r6⟩ := id ct
  have tb : zT h b = 2 := hb.2.1
  obtain ⟨t, et⟩ : ∃ t, t = decide (isT ch n i) := ⟨_, rfl⟩
  obtain ⟨j, ej⟩ : ∃ j, j = jt ch n i := ⟨_, rfl⟩
  rw [← et] at kb k0
  rw [← ej] at kb k0 jb nb pb nb2 pb2 nb3
  -- the new part
  have D : ∀ g s p sh m, TpS h g → CT g ch n m → s < S.length → sh ≤ 50 → zR h (b + 1) s = some p → prp ch n S t j (tnx ch n j) = .inr (m, (s, sh, t)) → WP 39 106 [some (.ref 1), some (.ref b), some (.ref q), some (.int (bI t)), some (.int (nI s)), some (.ref p), some (.int (nI sh))] [] g Q := by
    intro g s p sh m tg cm hs hsh hp e
    have K' := tg.1.SK K
    have dd : sameD h g := tg.1.D (by decide)
    have dsa : dyn h (b + 1) := by
      obtain ⟨k1, k2, k3, k4, sa, ca, k5, k6, k7, k8, k9, -⟩ := hb
      have esa : sa = b + 1 := by rw [k5] at r0; injection r0
      rw [← esa]; exact k6
    have hq' : atC g (b + 1) S q (nm, ps) := hq.keep dd dsa
    have rr : ∀ a, zR g a = zR h a := tg.1.2.2.2.1
    have zg : zn g = zn h := tg.1.2.2.2.2.2.1
    have zgk : zk g = zk h := tg.1.2.2.2.2.2.2
    have rq' : zR g q 1 = some (q + 1) := by rw [rr]; exact rq
    obtain ⟨f1, f2, f3, f4, pa, f5, f6, f7, f8, f9⟩ := id hq'
    have epa : pa = q + 1 := by rw [f5] at rq'; injection rq'
    subst epa
    have fz := f6.2
    have n1 : q ≠ zn g := by omega
    have n2 : q + 1 ≠ zn g := by omega
    refine B39_106 ?_
    refine B28_0 (by rw [zT_yN, if_pos rfl]) (B28_9 (by rw [zT_yR, zT_yN, if_pos rfl]) ⟨by rw [zT_yR, zT_yN, if_pos rfl], bI01 t⟩ ?_)
    have P' := hq'.pushP (x := (s, sh, t)) rq' (by omega) rfl (by omega) (show zR g (b + 1) s = some p by rw [rr]; exact hp)
    refine B39_121 ?_ (c20 (ps := ps) ?_ ?_ ?_ ?_ ?_ ?_ p12 (B39_124 oi1 (k0 m _ e _ ?_ ?_ ?_ ?_ P' ?_ ?_ ?_)))
    · rw [zT_yI, zT_yI, zT_yI, zT_yR, zT_yN, if_neg n1]; exact f2
    · rw [zT_yI, zT_yI, zT_yI, zT_yR, zT_yN, if_neg n1]; exact f2
    · rw [zR_yI, zR_yI, zR_yI, zR_yR, if_neg n1, zR_yN, if_neg n1]; exact f5
    · rw [zT_yI, zT_yI, zT_yI, zT_yR, zT_yN, if_neg n2]; exact f7
    · rw [zN_yI, zN_yI, zN_yI, zN_yR, zN_yN, if_neg n2]; exact f8
    · rw [zT_yI, zT_yI, zT_yI, zT_yR, zT_yN, if_pos rfl]
    · rw [zI_yI, if_neg n1, zI_yI, if_neg n1, zI_yI, if_neg n1, zI_yR, zI_yN, if_neg n1]; exact f4
    · have l1 : Lw q h g := Lw.C (CR.T tg)
      exact (((l1.tr (Lw.N ((Fr.rf.N 5 0 4).R _ 0 _ (Nat.le_refl _)) (by omega) (by omega))).I _ _ _ (by omega) (by omega) |>.I _ _ _ (by omega) (by omega) |>.I _ _ _ (by omega) (by omega)).R _ _ _ (by omega)).I _ _ _ (Nat.le_refl _) (by omega)
    · rw [zI_yI, if_neg (by omega), zI_yR, zI_yI, if_neg (by omega), zI_yI, if_neg (by omega), zI_yI, if_neg (by omega), zI_yR, zI_yN, if_neg (by omega)]; exact tg.1.1 5 (by decide)
    · rw [zI_yI, if_neg (by omega), zI_yR, zI_yI, if_neg (by omega), zI_yI, if_neg (by omega), zI_yI, if_neg (by omega), zI_yR, zI_yN, if_neg (by omega)]; exact tg.1.1 1 (by decide)
    · refine ⟨?_, ?_, ?_, cm.2.2.2.keep ?_⟩
      · rw [zI_yI, if_neg (by omega), zI_yR, zI_yI, if_neg (by omega), zI_yI, if_neg (by omega), zI_yI, if_neg (by omega), zI_yR, zI_yN, if_neg (by omega)]; exact cm.1
      · rw [zI_yI, if_neg (by omega), zI_yR, zI_yI, if_neg (by omega), zI_yI, if_neg (by omega), zI_yI, if_neg (by omega), zI_yR, zI_yN, if_neg (by omega)]; exact cm.2.1
      · rw [zI_yI, if_neg (by omega), zI_yR, zI_yI, if_neg (by omega), zI_yI, if_neg (by omega), zI_yI, if_neg (by omega), zI_yR, zI_yN, if_neg (by omega)]; exact cm.2.2.1
      · rw [zI_yI, if_neg (by omega), zI_yR, zI_yI, if_neg (by omega), zI_yI, if_neg (by omega), zI_yI, if_neg (by omega), zI_yR, zI_yN, if_neg (by omega)]
    · rw [zR_yI, zR_yR, if_neg (by omega), zR_yI, zR_yI, zR_yI, zR_yR, if_neg n1, zR_yN, if_neg n1]; exact f5
    · rw [zn_yI, zn_yR, zn_yI, zn_yI, zn_yI, zn_yR, zn_yN, zg]
    · rw [zk_yI, zk_yR, zk_yI, zk_yI, zk_yI, zk_yR, zk_yN, zgk]
  -- behind the name
  have A : isN ch n j → ∀ g d4 d5 d6, TpS h g → CT g ch n j → WP 17 0 [some (.ref b), some (.int (nI (tvl ch n j))), none] [] g (fun v1 h1 => WP 39 34 [some (.ref 1), some (.ref b), some (.ref q), some (.int (bI t)), d4, d5, d6] (v1.toList ++ []) h1 Q) := by
    intro nmj g d4 d5 d6 tg cg
    have K' := tg.1.SK K
    have hb' : atB g b (S, C) := hb.keep (tg.1.D (by decide))
    have r0' : zR g b 0 = some (b + 1) := by rw [tg.1.2.2.2.1]; exact r0
    have e2' : zI g 2 2 = nI n := by rw [tg.2 2 (by decide)]; exact e2
    obtain ⟨x3, x4, x5, x6⟩ := cg
    refine c17 K' hb' s12 hS (by omega) dS (fun fn => ?_) (fun s fs => ?_)
    · refine V39b K' hb'.2.1 (c15m K' (V39n K' ?_))
      have k' := kb 6 (tpl ch n j) (by
        unfold prp; rw [if_neg (fun q => q nmj)]
        have fn' : fnd (nmS S) (tvl ch n j) S.length = none := fn
        rw [fn']) (yI (yI g 1 1 (nI 6)) 1 2 (nI (tpl ch n j))) (((CF.T tg).F 1 _).F 2 _) (by simp [zI_yI, va_upA]) (by simp [zI_yI, va_upA])
      rw [x5]; exact k'
    · have fs' : fnd (nmS S) (tvl ch n j) S.length = some s := fs
      have sb : s < S.length := (fnd_s _ fs').1
      refine V39b K' hb'.2.1 (c15x K' hb' r0' s12 sb (fun p hp => V39c K' ?_))
      have hp' : zR h (b + 1) s = some p := by rw [← tg.1.2.2.2.1]; exact hp
      refine c66 K' hn nb.2.1 e2' x3 (hch.keep (tg.1.1 3 (by decide))) (fun g2 t2 y3 y4 y5 y6 => ?_)
      have t2' : TpS h g2 := tg.tr t2
      have K2 := t2'.1.SK K
      have pe : prp ch n S t j (tnx ch n j) = if isg ch n 43 (tnx ch n j) then
        (if ¬ tkd ch n (tnx ch n (tnx ch n j)) = 2 then .inl (wrg ch n (tnx ch n (tnx ch n j)))
         else if 50 < tvl ch n (tnx ch n (tnx ch n j)) then .inl (4, tpl ch n (tnx ch n (tnx ch n j)))
         else .inr (tnx ch n (tnx ch n (tnx ch n j)), (s, tvl ch n (tnx ch n (tnx ch n j)), t)))
        else .inr (tnx ch n j, (s, 0, t)) := by
        unfold prp; rw [if_neg (fun q => q nmj), fs']
      have t4 := tk_le (ch := ch) (n := n) (i := tnx ch n j)
      by_cases plus : isg ch n 43 (tnx ch n j)
      · rw [if_pos plus] at pe
        have y6' := ct_s y6 plus.1
        have pt3 := tk3 plus.1
        rw [plus.1] at y4
        rw [plus.2] at y6'
        have E' : WP 42 0 [some (.ref 1), some (.int (nI 0)), some (.int (nI 50)), none] [] g2 (fun v1 h1 => WP 39 85 [some (.ref 1), some (.ref b), some (.ref q), some (.int (bI t)), some (.int (nI s)), some (.ref p), some (.int (nI 0))] (v1.toList ++ []) h1 Q) := by
          refine c42 (lo := 0) (hi := 50) K2 hn nb2.2.1 (by omega) (by omega) (by rw [t2'.2 2 (by decide)]; exact e2) y3 (hch.keep (t2'.1.1 3 (by decide))) (fun q g3 cg f1 f2 => ?_) (fun q1 q2 g3 cg f1 f2 => ?_) (fun q1 q2 q3 g3 t3 ct3 => ?_)
          · have cf : CF h g3 := ⟨((t2'.1.tr cg.1).sub (by decide)), fun k hk => (cg.2 k hk).trans (t2'.2 k hk)⟩
            have k' := kb _ _ (by rw [pe, if_pos q]) g3 cf f1 f2
            refine V39e  (cf.1.SK K) ?_ ?_ <;> simp (disch := omega) only [oi_l, oi_n, z_nI, nIA, nIM, nIS, nIlt, nIle, nIeq, nIC, vpI, Nat.add_sub_cancel, Nat.not_le, Nat.not_lt, Nat.not_lt_zero, Nat.le_refl, not_true_eq_false, not_false_eq_true, false_imp_iff, true_imp_iff, forall_const, implies_true, Nat.reduceEqDiff, Nat.reduceLeDiff, Nat.reduceLT] <;> first | omega | exact k'
          · have cf : CF h g3 := ⟨((t2'.1.tr cg.1).sub (by decide)), fun k hk => (cg.2 k hk).trans (t2'.2 k hk)⟩
            have k' := kb _ _ (by rw [pe, if_neg (fun q => q q1), if_pos (by omega)]) g3 cf f1 f2
            refine V39e  (cf.1.SK K) ?_ ?_ <;> simp (disch := omega) only [oi_l, oi_n, z_nI, nIA, nIM, nIS, nIlt, nIle, nIeq, nIC, vpI, Nat.add_sub_cancel, Nat.not_le, Nat.not_lt, Nat.not_lt_zero, Nat.le_refl, not_true_eq_false, not_false_eq_true, false_imp_iff, true_imp_iff, forall_const, implies_true, Nat.reduceEqDiff, Nat.reduceLeDiff, Nat.reduceLT] <;> first | omega | exact k'
          · have t3' : TpS h g3 := t2'.tr t3
            obtain ⟨u3, u4, u5, u6⟩ := id ct3
            have F' : WP 66 0 [some (.ref 2), none] [] g3 (fun v1 h1 => WP 39 106 [some (.ref 1), some (.ref b), some (.ref q), some (.int (bI t)), some (.int (nI s)), some (.ref p), some (.int (nI (tvl ch n (tnx ch n (tnx ch n j)))))] (v1.toList ++ []) h1 Q) := c66 (t3'.1.SK K) hn nb3.2.1 (by rw [t3'.2 2 (by decide)]; exact e2) u3 (hch.keep (t3'.1.1 3 (by decide))) (fun g4 t4 v3 v4 v5 v6 => D g4 s p _ _ (t3'.tr t4) ⟨v3, v4, v5, v6⟩ sb q3 hp' (by rw [pe, if_neg (fun q => q q1), if_neg (by omega)]))
            have G' : WP 69 0 [some (.ref 2), none, none] [] g3 (fun v1 h1 => WP 39 97 [some (.ref 1), some (.ref b), some (.ref q), some (.int (bI t)), some (.int (nI s)), some (.ref p), some (.int (nI 0))] (v1.toList ++ []) h1 Q) := c69t (t3'.1.SK K) hn q1 ct3 (by
              exact V39f (t3'.1.SK K) F')
            refine V39e  (t3'.1.SK K) ?_ ?_ <;> simp (disch := omega) only [oi_l, oi_n, z_nI, nIA, nIM, nIS, nIlt, nIle, nIeq, nIC, vpI, Nat.add_sub_cancel, Nat.not_le, Nat.not_lt, Nat.not_lt_zero, Nat.le_refl, not_true_eq_false, not_false_eq_true, false_imp_iff, true_imp_iff, forall_const, implies_true, Nat.reduceEqDiff, Nat.reduceLeDiff, Nat.reduceLT] <;> first | omega | exact G'
        refine V39d  K2 ?_ ?_ ?_ ?_ <;> simp (disch := omega) only [oi_l, oi_n, z_nI, nIA, nIM, nIS, nIlt, nIle, nIeq, nIC, vpI, Nat.add_sub_cancel, Nat.not_le, Nat.not_lt, Nat.not_lt_zero, Nat.le_refl, not_true_eq_false, not_false_eq_true, false_imp_iff, true_imp_iff, forall_const, implies_true, Nat.reduceEqDiff, Nat.reduceLeDiff, Nat.reduceLT, y4, y5, y6'] <;> first | omega | exact E'
      · rw [if_neg plus] at pe
        have D' := D g2 s p 0 _ t2' ⟨y3, y4, y5, y6⟩ sb (by omega) hp' pe
        by_cases k3 : tkd ch n (tnx ch n j) = 3
        · have y6' := ct_s y6 k3
          have kt3 := tk3 k3
          have vb := tv_b k3
          have v43 : ¬ tvl ch n (tnx ch n j) = 43 := fun q => plus ⟨k3, q⟩
          refine V39d  K2 ?_ ?_ ?_ ?_ <;> simp (disch := omega) only [oi_l, oi_n, z_nI, nIA, nIM, nIS, nIlt, nIle, nIeq, nIC, vpI, Nat.add_sub_cancel, Nat.not_le, Nat.not_lt, Nat.not_lt_zero, Nat.le_refl, not_true_eq_false, not_false_eq_true, false_imp_iff, true_imp_iff, forall_const, implies_true, Nat.reduceEqDiff, Nat.reduceLeDiff, Nat.reduceLT, y4, y5, y6', eq_true k3, v43] <;> first | omega | exact D'
        · refine V39d  K2 ?_ ?_ ?_ ?_ <;> simp (disch := omega) only [oi_l, oi_n, z_nI, nIA, nIM, nIS, nIlt, nIle, nIeq, nIC, vpI, Nat.add_sub_cancel, Nat.not_le, Nat.not_lt, Nat.not_lt_zero, Nat.le_refl, not_true_eq_false, not_false_eq_true, false_imp_iff, true_imp_iff, forall_const, implies_true, Nat.reduceEqDiff, Nat.reduceLeDiff, Nat.reduceLT, y4, k3] <;> first | omega | exact D'
  have A2 : isN ch n j → ∀ g d4 d5 d6, TpS h g → CT g ch n j → WP 39 23 [some (.ref 1), some (.ref b), some (.ref q), some (.int (bI t)), d4, d5, d6] [] g Q := by
    intro nmj g d4 d5 d6 tg cg
    have A' := A nmj g d4 d5 d6 tg cg
    obtain ⟨x3, x4, x5, x6⟩ := cg
    have x6' := ct_l x6 nmj.1 nmj.2
    have tl := tk1l nmj.1
    have tb1 : zT g b = 2 := by rw [tg.1.2.1]; exact tb
    rw [nmj.1] at x4
    refine V39y  (tg.1.SK K) ?_ ?_ ?_ ?_ ?_ <;> simp (disch := omega) only [oi_l, oi_n, z_nI, nIA, nIM, nIS, nIlt, nIle, nIeq, nIC, vpI, Nat.add_sub_cancel, Nat.not_le, Nat.not_lt, Nat.not_lt_zero, Nat.le_refl, not_true_eq_false, not_false_eq_true, false_imp_iff, true_imp_iff, forall_const, implies_true, Nat.reduceEqDiff, Nat.reduceLeDiff, Nat.reduceLT, x4, x5, x6', tb1] <;> first | omega | exact A'
  have nbi := tnx_b (ch := ch) hi
  by_cases tn : isT ch n i
  · have t1 : t = true := by rw [et]; exact decide_eq_true tn
    have ej' : j = tnx ch n i := by rw [ej]; unfold jt; rw [if_pos tn]
    have B' : WP 40 0 [some (.ref 1)] [] h (fun v1 h1 => WP 39 18 [some (.ref 1), some (.ref b), some (.ref q), some (.int (nI 1)), none, none, none] (v1.toList ++ []) h1 Q) := by
      refine c40 K hn nbi.2.1 e2 r3 hch (fun q g cg f1 f2 => ?_) (fun nmj g1 t1' ct1 => ?_)
      · rw [← ej'] at q f1 f2
        have k' := kb _ _ (by unfold prp; rw [if_pos q]) g cg f1 f2
        refine V39a  (cg.1.SK K) ?_ ?_ <;> simp (disch := omega) only [oi_l, oi_n, z_nI, nIA, nIM, nIS, nIlt, nIle, nIeq, nIC, vpI, Nat.add_sub_cancel, Nat.not_le, Nat.not_lt, Nat.not_lt_zero, Nat.le_refl, not_true_eq_false, not_false_eq_true, false_imp_iff, true_imp_iff, forall_const, implies_true, Nat.reduceEqDiff, Nat.reduceLeDiff, Nat.reduceLT] <;> first | omega | exact k'
      · rw [← ej'] at nmj ct1
        have A' := A2 nmj g1 none none none t1' ct1
        rw [t1] at A'
        refine V39a  (t1'.1.SK K) ?_ ?_ <;> simp (disch := omega) only [oi_l, oi_n, z_nI, nIA, nIM, nIS, nIlt, nIle, nIeq, nIC, vpI, Nat.add_sub_cancel, Nat.not_le, Nat.not_lt, Nat.not_lt_zero, Nat.le_refl, not_true_eq_false, not_false_eq_true, false_imp_iff, true_imp_iff, forall_const, implies_true, Nat.reduceEqDiff, Nat.reduceLeDiff, Nat.reduceLT] <;> first | omega | exact A'
    refine V39 K (c68t K hn ⟨nbi.1, nbi.2.1⟩ (by decide) ct ?_)
    rw [if_pos ⟨tn.1, tn.2⟩]
    refine V39z  K ?_ ?_ <;> simp (disch := omega) only [oi_l, oi_n, z_nI, nIA, nIM, nIS, nIlt, nIle, nIeq, nIC, vpI, Nat.add_sub_cancel, Nat.not_le, Nat.not_lt, Nat.not_lt_zero, Nat.le_refl, not_true_eq_false, not_false_eq_true, false_imp_iff, true_imp_iff, forall_const, implies_true, Nat.reduceEqDiff, Nat.reduceLeDiff, Nat.reduceLT] <;> first | omega | exact B'
  · have t1 : t = false := by rw [et]; exact decide_eq_false tn
    have ej' : j = i := by rw [ej]; unfold jt; rw [if_neg tn]
    have nmi : isN ch n i := by rcases kk with k | k; · exact k
                                · exact absurd k tn
    have A' := A2 (by rw [ej']; exact nmi) h none none none TpS.rf (by rw [ej']; exact ct)
    rw [t1] at A'
    refine V39 K (c68t K hn ⟨nbi.1, nbi.2.1⟩ (by decide) ct ?_)
    rw [if_neg (fun q => tn ⟨q.1, q.2⟩)]
    refine V39z  K ?_ ?_ <;> simp (disch := omega) only [oi_l, oi_n, z_nI, nIA, nIM, nIS, nIlt, nIle, nIeq, nIC, vpI, Nat.add_sub_cancel, Nat.not_le, Nat.not_lt, Nat.not_lt_zero, Nat.le_refl, not_true_eq_false, not_false_eq_true, false_imp_iff, true_imp_iff, forall_const, implies_true, Nat.reduceEqDiff, Nat.reduceLeDiff, Nat.reduceLT] <;> first | omega | exact A'
end CC2

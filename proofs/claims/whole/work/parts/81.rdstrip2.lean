/-! the loop of readStrip of the model -/
theorem V140J {h : pm_H} {Q : Option Value → pm_H → Prop} {hs : Int32} {mo : Int32} {tt : Int32} {d5 : Option Value} {d6 : Option Value} {d7 : Option Value} {d8 : Option Value} {z : Nat} {o : Nat} (S : SK h) (k3 : ((zI h 35 7) ≤ 0) → (¬ tt = 0) → WP 140 309 [some (.ref 35), some (.int (nI z)), some (.int (nI o)), some (.int hs), some (.int mo), some (.int tt), d6, d7, d8] [] h Q) (k4 : ((zI h 35 7) ≤ 0) → (tt = 0) → WP 128 0 [some (.ref 35), none] [] h (fun v1 h1 => WP 140 309 [some (.ref 35), some (.int (nI z)), some (.int (nI o)), some (.int hs), some (.int mo), some (.int tt), d6, d7, d8] (v1.toList ++ []) h1 Q)) (k5 : (¬ (zI h 35 7) ≤ 0) → Q none h) : WP 140 290 [some (.ref 35), some (.int (nI z)), some (.int (nI o)), some (.int hs), some (.int mo), d5, d6, d7, d8] [.int tt] h Q :=
  B140_290 (S.T 35) (fun c1 => B140_300 (fun c2 => k3 c1 c2) (fun c2 => B140_305 (S.T 35) (k4 c1 c2))) (fun c1 => B140_299 (k5 c1))
theorem nIp (n : Nat) : nI (n + 1) + Int32.ofInt (-1) = nI n := by
  have e : nI (n + 1) - nI 1 = nI n := nIS (by omega)
  rw [← e, Int32.sub_eq_add_neg]; rfl
theorem t64 {z : Int} : (Int64.ofInt z).toInt32 = Int32.ofInt z := Int64.toInt32_ofInt
set_option maxHeartbeats 20000000 in
theorem m140L {h : pm_H} {Q : Option Value → pm_H → Prop} {ch : Nat → Nat} {n s : Nat} (S : SK h) (hn : n ≤ 800) (hs : s < 12) (e4 : zI h 35 4 = nI n) (hch : CH h 36 ch n) :
    ∀ f i l st (has : Bool) (g : pm_H) d5 d6 d7 d8 hv, n < i + f → i ≤ n → MF [46, 48, 53, 54] h g → F46 h g s → zI g 48 = zI h 48 → MT g ch n i → zI g 35 7 = nI 0 → MV g s l st → SO st → hv = (if has then nI 1 else nI 0) →
      (∀ k p, pcs ch n f i l st has = .inl (k, p) → ∀ g, MF [46, 48, 53, 54] h g → F46 h g s → zI g 35 7 = nI k → zI g 35 8 = nI p → 1 ≤ k → Q none g) →
      (∀ i' l', pcs ch n f i l st has = (if tkd ch n i' = 3 ∧ tvl ch n i' = 59 then .inr (tnx ch n i', l') else .inl (cs1 ch n i', tpl ch n i')) → i' ≤ n → ∀ g, MF [46, 48, 53, 54] h g → F46 h g s → zI g 48 = va_up (zI h 48) s (nI l'.length) → MT g ch n i' → zI g 35 7 = nI 0 → zI g 35 17 = nI (s + 1) → MP g s l' → l'.length ≤ 400 → (∀ j, l'.getD j 0 < 8) → Q none g) →
      WP 140 124 [some (.ref 35), some (.int (nI l.length)), some (.int (nI st.length)), some (.int hv), some (.int (nI 1)), d5, d6, d7, d8] [] g Q := by
  intro f
  induction f with
  | zero => intro i l st has g d5 d6 d7 d8 hv h1 h2; omega
  | succ f ih =>
    intro i l st has g d5 d6 d7 d8 hv h1 h2 mf f46 e48 mt e7 mv so eh kb k0
    have nb := tnx_b (ch := ch) h2
    have pb := tpl_b (ch := ch) h2
    have nb2 := tnx_b (ch := ch) nb.2.1
    have pb2 := tpl_b (ch := ch) nb.2.1
    have t4 := tk_le (ch := ch) (n := n) (i := i)
    have S' := mf.SK S
    obtain ⟨v17, v2, v3, v4, v5, v6⟩ := id mv
    have f4 : zI g 35 4 = nI n := by rw [mf.2.1 4 (by omega) (by omega) (by omega)]; exact e4
    have hcg : CH g 36 ch n := hch.keep (mf.1 36 (by decide) (by decide))
    have m10 := mt.2.1
    have m11 := mt.2.2.1
    -- one more token
    have nxt : ∀ (g1 : pm_H) j Q', MF [46, 48, 53, 54] h g1 → j ≤ n → MT g1 ch n j → (∀ g2, TmS g1 g2 → MF [46, 48, 53, 54] h g2 → MT g2 ch n (tnx ch n j) → Q' none g2) → WP 128 0 [some (.ref 35), none] [] g1 Q' := fun g1 j Q' m1 hj mt1 k => c128 (m1.SK S) hn (tnx_b (ch := ch) hj).2.1 (by rw [m1.2.1 4 (by omega) (by omega) (by omega)]; exact e4) mt1.2.2.1 (hch.keep (m1.1 36 (by decide) (by decide))) (fun g2 t2 a9 a10 a11 a12 a13 => k g2 t2 (m1.tr (MF.T t2)) ⟨a9, a10, a11, a12, a13⟩)
    have cs : 1 ≤ cs1 ch n i ∧ 1 ≤ cs1 ch n (tnx ch n i) := by unfold cs1; constructor <;> split <;> omega
    refine V140h  S' ?_ ?_ ?_ <;> simp (disch := omega) only [oi_l, oi_n, z_nI, nIA, nIM, nIS, nIlt, nIle, nIeq, nIC, vpI, Nat.add_sub_cancel, Nat.not_le, Nat.not_lt, Nat.not_lt_zero, Nat.le_refl, not_true_eq_false, not_false_eq_true, false_imp_iff, true_imp_iff, forall_const, implies_true, Nat.reduceEqDiff, Nat.reduceLeDiff, Nat.reduceLT, e7] <;> (try omega)
    refine c134 S' mt hn ?_
    by_cases cA : tkd ch n i = 1 ∧ tvl ch n i < 8
    · have eq := pcs_A (f := f) (l := l) (st := st) (has := has) cA
      rw [if_pos ⟨cA.1, by omega⟩]
      have zw := w8 mt cA.1 (show tvl ch n i < 26 by omega)
      refine V140a S' (fun q => absurd q (by decide)) (fun _ q => ?_) (fun _ _ => ?_)
      · rw [lgP, zw, Int64.lt_iff_toInt_lt, Int64.toInt_ofInt_of_le (by decide) (by decide), Int64.toInt_ofInt_of_le (by omega) (by omega)] at q
        omega
      · have ec : (zJ g 35 14).toInt32 - Int32.ofInt 1 = nI (tvl ch n i) := by
          rw [zw, t64, ← Int32.ofInt_sub, ← oi_n]; exact congrArg Int32.ofInt (by omega)
        rw [m10, ec]
        refine nxt g i _ mf h2 mt (fun g2 t2 m2 mt2 => V140b (m2.SK S) ?_)
        have e72 : zI g2 35 7 = nI 0 := by rw [t2.2.1 7 (by omega)]; exact e7
        have f46' : F46 h g2 s := fun j hj => by rw [t2.1 46 (by decide)]; exact f46 j hj
        have mv2 := mv.T t2
        have rt : ∀ k p, 1 ≤ k → k ≤ 8 → pcs ch n (f + 1) i l st has = .inl (k, p) → ∀ g3 v, MF [] g2 g3 → zI g3 35 7 = nI k → zI g3 35 8 = nI p → WP 140 181 [some (.ref 35), some (.int (nI l.length)), some (.int (nI st.length)), some (.int hv), some (.int (nI 1)), some (.int (nI (tpl ch n i))), some (.int (nI (tvl ch n i))), d7, d8] [.int v] g3 Q := fun k p hk hk8 e g3 v m3 b7 b8' => by
          have m3' : MF [46, 48, 53, 54] h g3 := m2.tr ⟨fun a h1 h2 => m3.1 a (by simp) h2, m3.2⟩
          have k' := kb k p e g3 m3' (fun j hj => by rw [m3.1 46 (by simp) (by decide)]; exact f46' j hj) b7 b8' hk
          refine V140c  (m3'.SK S) ?_ ?_ ?_ ?_ <;> simp (disch := omega) only [oi_l, oi_n, z_nI, nIA, nIM, nIS, nIlt, nIle, nIeq, nIC, vpI, Nat.add_sub_cancel, Nat.not_le, Nat.not_lt, Nat.not_lt_zero, Nat.le_refl, not_true_eq_false, not_false_eq_true, false_imp_iff, true_imp_iff, forall_const, implies_true, Nat.reduceEqDiff, Nat.reduceLeDiff, Nat.reduceLT, b7, Nat.le_zero, show ¬ k = 0 by omega] <;> first | omega | exact k'
        have csb : cs1 ch n (tnx ch n i) ≤ 8 := by unfold cs1; split <;> omega
        refine c139 (lo := 1) (hi := 200) (m2.SK S) hn nb.2.1 (by omega) (by omega) (by rw [m2.2.1 4 (by omega) (by omega) (by omega)]; exact e4) mt2 e72 (hch.keep (m2.1 36 (by decide) (by decide))) (fun q g3 v m3 b7 b8' => ?_) (fun q1 q2 g3 v m3 b7 b8' => ?_) (fun q1 q2 q3 g3 t3 mt3 => ?_)
        · exact rt _ _ cs.2 csb (by rw [eq]; unfold p35; rw [if_pos q]) g3 v m3 b7 b8'
        · exact rt _ _ (by decide) (by decide) (by rw [eq]; unfold p35; rw [if_neg (by omega), if_pos (by omega)]) g3 v m3 b7 b8'
        · have m3 : MF [46, 48, 53, 54] h g3 := m2.tr (MF.T t3)
          have e73 : zI g3 35 7 = nI 0 := by rw [t3.2.1 7 (by omega)]; exact e72
          by_cases big : 400 < l.length + tvl ch n (tnx ch n i)
          · have k' := kb 7 (tpl ch n i) (by rw [eq]; unfold p35; rw [if_neg (by omega), if_neg (by omega), if_pos big]) (yI (yI g3 35 7 (nI 7)) 35 8 (nI (tpl ch n i))) ((m3.F 7 _ (by omega)).F 8 _ (by omega)) (fun j hj => by simp only [zI_yI, Nat.reduceEqDiff, if_false]; rw [t3.1 46 (by decide)]; exact f46' j hj) (by simp [zI_yI, va_upA]) (by simp [zI_yI, va_upA]) (by decide)
            refine V140c  (m3.SK S) ?_ ?_ ?_ ?_ <;> simp (disch := omega) only [oi_l, oi_n, z_nI, nIA, nIM, nIS, nIlt, nIle, nIeq, nIC, vpI, Nat.add_sub_cancel, Nat.not_le, Nat.not_lt, Nat.not_lt_zero, Nat.le_refl, not_true_eq_false, not_false_eq_true, false_imp_iff, true_imp_iff, forall_const, implies_true, Nat.reduceEqDiff, Nat.reduceLeDiff, Nat.reduceLT, e73, show ¬ l.length + tvl ch n (tnx ch n i) ≤ 400 by omega] <;> first | omega | exact k'
          · have eq2 : pcs ch n (f + 1) i l st has = pcs ch n f (tnx ch n (tnx ch n i)) (addL l (tvl ch n (tnx ch n i)) (tvl ch n i)) st true := by
              rw [eq]; unfold p35; rw [if_neg (by omega), if_neg (by omega), if_neg big]
            have mv3 := mv2.T t3
            obtain ⟨x17, x2, x3, x4, x5, x6⟩ := id mv3
            have al : (addL l (tvl ch n (tnx ch n i)) (tvl ch n i)).length = l.length + tvl ch n (tnx ch n i) := mkL_len _ _
            have D : ∀ r k (g4 : pm_H), k + r = tvl ch n (tnx ch n i) → Same [46] g3 g4 → F46 h g4 s → (∀ j, j < l.length + k → zI g4 46 (400 * s + j) = nI (if j < l.length then l.getD j 0 else tvl ch n i)) → WP 140 213 [some (.ref 35), some (.int (nI l.length)), some (.int (nI st.length)), some (.int hv), some (.int (nI 1)), some (.int (nI (tpl ch n i))), some (.int (nI (tvl ch n i))), some (.int (nI (tvl ch n (tnx ch n i)))), some (.int (nI k))] [] g4 Q := by
              intro r
              induction r with
              | zero =>
                intro k g4 hk s4 q46 fr
                obtain rfl : k = tvl ch n (tnx ch n i) := by omega
                have r35 := s4.1 35 (by decide)
                have m4 : MF [46, 48, 53, 54] h g4 := m3.tr ⟨fun a h1 h2 => s4.1 a (fun q => h1 (by simp at q; rw [q]; decide)), fun k _ _ _ => by rw [r35], s4.2.1, s4.2.2.1, s4.2.2.2.1, s4.2.2.2.2.2.1, s4.2.2.2.2.2.2⟩
                have I' := ih (tnx ch n (tnx ch n i)) (addL l (tvl ch n (tnx ch n i)) (tvl ch n i)) st true g4 (some (.int (nI (tpl ch n i)))) (some (.int (nI (tvl ch n i)))) (some (.int (nI (tvl ch n (tnx ch n i))))) (some (.int (nI (tvl ch n (tnx ch n i))))) (nI 1) (by have := nb.2.2 (by omega); omega) nb2.2.1 m4 q46 (by rw [s4.1 48 (by decide), t3.1 48 (by decide), t2.1 48 (by decide)]; exact e48) (mt3.keep (fun k _ _ => by rw [r35]) (s4.2.2.2.2.1 35)) (by rw [r35]; exact e73) ⟨by rw [r35]; exact x17, by rw [al]; omega, fun j hj => by
                    rw [al] at hj
                    rw [fr j hj]; unfold addL; rw [mkL_g _ _ _ hj], gD8 (mkL_c (fun j _ => by
                    show (if j < l.length then l.getD j 0 else tvl ch n i) < 8
                    split
                    · exact x4 j
                    · exact cA.2)), x5, fun d hd => by
                    rw [s4.1 53 (by decide), s4.1 54 (by decide), al]
                    have := x6 d hd
                    exact ⟨this.1, this.2.1, by omega, this.2.2.2⟩⟩ so rfl (by rw [← eq2]; exact kb) (by rw [← eq2]; exact k0)
                rw [al] at I'
                refine V140d  (m4.SK S) ?_ ?_ ?_ <;> simp (disch := omega) only [oi_l, oi_n, z_nI, nIA, nIM, nIS, nIlt, nIle, nIeq, nIC, vpI, Nat.add_sub_cancel, Nat.not_le, Nat.not_lt, Nat.not_lt_zero, Nat.le_refl, not_true_eq_false, not_false_eq_true, false_imp_iff, true_imp_iff, forall_const, implies_true, Nat.reduceEqDiff, Nat.reduceLeDiff, Nat.reduceLT] <;> first | omega | exact I'
              | succ r ihr =>
                intro k g4 hk s4 q46 fr
                have y17 : zI g4 35 17 = nI s := by rw [s4.1 35 (by decide)]; exact x17
                have S4 := s4.SK (m3.SK S)
                have b := b8 cA.2
                have I' := ihr (k + 1) (yI g4 46 (400 * s + l.length + k) (nI (tvl ch n i))) (by omega) (s4.I 46 _ _ (by decide)) (fun j hj => by
                  simp only [zI_yI, va_upA, if_true]; rw [if_neg (by omega)]; exact q46 j hj) (fun j hj => by
                  simp only [zI_yI, va_upA, if_true]
                  by_cases e : j = l.length + k
                  · rw [if_pos (by omega), if_neg (by omega)]
                  · rw [if_neg (by omega)]; exact fr j (by omega))
                refine V140d  S4 ?_ ?_ ?_ <;> simp (disch := omega) only [oi_l, oi_n, z_nI, nIA, nIM, nIS, nIlt, nIle, nIeq, nIC, vpI, Nat.add_sub_cancel, Nat.not_le, Nat.not_lt, Nat.not_lt_zero, Nat.le_refl, not_true_eq_false, not_false_eq_true, false_imp_iff, true_imp_iff, forall_const, implies_true, Nat.reduceEqDiff, Nat.reduceLeDiff, Nat.reduceLT, y17, b, show ¬ tvl ch n (tnx ch n i) ≤ k by omega] <;> first | omega | exact I'
            have D' := D _ 0 g3 (Nat.zero_add _) Same.rf (fun j hj => by rw [t3.1 46 (by decide)]; exact f46' j hj) (fun j hj => by rw [if_pos (by omega)]; exact x3 j (by omega))
            refine V140c  (m3.SK S) ?_ ?_ ?_ ?_ <;> simp (disch := omega) only [oi_l, oi_n, z_nI, nIA, nIM, nIS, nIlt, nIle, nIeq, nIC, vpI, Nat.add_sub_cancel, Nat.not_le, Nat.not_lt, Nat.not_lt_zero, Nat.le_refl, not_true_eq_false, not_false_eq_true, false_imp_iff, true_imp_iff, forall_const, implies_true, Nat.reduceEqDiff, Nat.reduceLeDiff, Nat.reduceLT, e73, show l.length + tvl ch n (tnx ch n i) ≤ 400 by omega] <;> first | omega | exact D'
    · by_cases cB : tkd ch n i = 2 ∨ (tkd ch n i = 1 ∧ tvl ch n i = 28)
      · have eq := pcs_B (f := f) (l := l) (st := st) (has := has) cA cB
        have csb : cs1 ch n (tnx ch n i) ≤ 8 := by unfold cs1; split <;> omega
        have v28 : tkd ch n i = 1 → tvl ch n i = 28 := fun q => by omega
        rw [if_neg (fun q => by have := v28 q.1; omega)]
        refine V140a S' (fun _ => ?_) (fun q => absurd rfl q) (fun q => absurd rfl q)
        -- a return with a fault at 340
        have R340 : ∀ g3 k p t d6 d7 d8, 1 ≤ k → k ≤ 8 → pcs ch n (f + 1) i l st has = .inl (k, p) → MF [46, 48, 53, 54] h g3 → F46 h g3 s → zI g3 35 7 = nI k → zI g3 35 8 = nI p → WP 140 340 [some (.ref 35), some (.int (nI l.length)), some (.int (nI st.length)), some (.int hv), some (.int (nI 1)), some (.int (nI t)), d6, d7, d8] [] g3 Q := fun g3 k p t d6 d7 d8 hk hk8 e m3 q46 b7 b8' => by
          have k' := kb k p e g3 m3 q46 b7 b8' hk
          refine V140n  (m3.SK S) ?_ ?_ <;> simp (disch := omega) only [oi_l, oi_n, z_nI, nIA, nIM, nIS, nIlt, nIle, nIeq, nIC, vpI, Nat.add_sub_cancel, Nat.not_le, Nat.not_lt, Nat.not_lt_zero, Nat.le_refl, not_true_eq_false, not_false_eq_true, false_imp_iff, true_imp_iff, forall_const, implies_true, Nat.reduceEqDiff, Nat.reduceLeDiff, Nat.reduceLT, b7, Nat.le_zero, show ¬ k = 0 by omega] <;> first | omega | exact k'
        have K309 : ¬ (tkd ch n i = 2 ∧ (tvl ch n i < 2 ∨ 50 < tvl ch n i)) → ∀ g1 t d6 d7 d8, t = (if tkd ch n i = 2 then tvl ch n i else 0) → MF [46, 48, 53, 54] h g1 → TmS g g1 → MT g1 ch n (tnx ch n i) → WP 140 309 [some (.ref 35), some (.int (nI l.length)), some (.int (nI st.length)), some (.int hv), some (.int (nI 1)), some (.int (nI t)), d6, d7, d8] [] g1 Q := by
          intro no g1 t d6 d7 d8 et m1 tg1 mt1
          have S1 := m1.SK S
          have tb : t ≤ 50 := by rw [et]; split <;> omega
          have q7 : zI g1 35 7 = nI 0 := by rw [tg1.2.1 7 (by omega)]; exact e7
          have q46 : F46 h g1 s := fun j hj => by rw [tg1.1 46 (by decide)]; exact f46 j hj
          have mv1 := mv.T tg1
          refine V140k S1 (c135 (c := 40) (by decide) S1 mt1 ?_)
          by_cases par : tkd ch n (tnx ch n i) = 3 ∧ tvl ch n (tnx ch n i) = 40
          · rw [if_pos par]
            by_cases o8 : 8 ≤ st.length
            · have r' := R340 (yI (yI g1 35 7 (nI 3)) 35 8 (nI (tpl ch n (tnx ch n i)))) 3 (tpl ch n (tnx ch n i)) t d6 d7 d8 (by decide) (by decide) (by rw [eq]; unfold p36; rw [if_neg no, if_neg (fun q => q par), if_pos o8]) ((m1.F 7 _ (by omega)).F 8 _ (by omega)) (fun j hj => by simp only [zI_yI, Nat.reduceEqDiff, if_false]; exact q46 j hj) (by simp [zI_yI, va_upA]) (by simp [zI_yI, va_upA])
              refine V140l  S1 ?_ ?_ ?_ ?_ <;> simp (disch := omega) only [oi_l, oi_n, z_nI, nIA, nIM, nIS, nIlt, nIle, nIeq, nIC, vpI, Nat.add_sub_cancel, Nat.not_le, Nat.not_lt, Nat.not_lt_zero, Nat.le_refl, not_true_eq_false, not_false_eq_true, false_imp_iff, true_imp_iff, forall_const, implies_true, Nat.reduceEqDiff, Nat.reduceLeDiff, Nat.reduceLT, q7, mt1.2.1, show st.length = 8 by omega] <;> first | omega | (rw [show st.length = 8 by omega] at r'; exact r')
            · have eq2 : pcs ch n (f + 1) i l st has = pcs ch n f (tnx ch n (tnx ch n i)) l ((l.length, if tkd ch n i = 2 then tvl ch n i else 0) :: st) false := by
                rw [eq]; unfold p36; rw [if_neg no, if_neg (fun q => q par), if_neg o8]
              have r' : WP 140 340 [some (.ref 35), some (.int (nI l.length)), some (.int (nI st.length)), some (.int hv), some (.int (nI 1)), some (.int (nI t)), d6, d7, d8] [] g1 Q := by
                have C' : WP 128 0 [some (.ref 35), none] [] g1 (fun v1 h1 => WP 140 352 [some (.ref 35), some (.int (nI l.length)), some (.int (nI st.length)), some (.int hv), some (.int (nI 1)), some (.int (nI t)), d6, d7, d8] (v1.toList ++ []) h1 Q) := nxt g1 (tnx ch n i) _ m1 nb.2.1 mt1 (fun g2 t2 m2 mt2 => by
                  obtain ⟨x17, x2, x3, x4, x5, x6⟩ := mv1.T t2
                  have I' := ih (tnx ch n (tnx ch n i)) l ((l.length, if tkd ch n i = 2 then tvl ch n i else 0) :: st) false (yI (yI g2 53 st.length (nI l.length)) 54 st.length (nI t)) (some (.int (nI t))) d6 d7 d8 (nI 0) (by have := nb.2.2 (by omega); omega) nb2.2.1 ((m2.I 53 _ _ (by decide) (by decide)).I 54 _ _ (by decide) (by decide)) (fun j hj => by simp only [zI_yI, Nat.reduceEqDiff, if_false]; rw [t2.1 46 (by decide)]; exact q46 j hj) (by simp only [zI_yI, Nat.reduceEqDiff, if_false]; rw [t2.1 48 (by decide), tg1.1 48 (by decide)]; exact e48) (mt2.keep (fun k _ _ => by simp only [zI_yI, Nat.reduceEqDiff, if_false]) rfl) (by simp only [zI_yI, Nat.reduceEqDiff, if_false]; rw [t2.2.1 7 (by omega)]; exact q7) ⟨by simp only [zI_yI, Nat.reduceEqDiff, if_false]; exact x17, x2, fun j hj => by simp only [zI_yI, Nat.reduceEqDiff, if_false]; exact x3 j hj, x4, by simp; omega, fun d hd => by
                    simp only [List.length_cons] at hd
                    simp only [zI_yI, va_upA, Nat.reduceEqDiff, if_true, if_false]
                    by_cases e : d = st.length
                    · rw [if_pos e, if_pos e, e, skD_t]; exact ⟨rfl, by rw [et], Nat.le_refl _, by rw [← et]; exact tb⟩
                    · rw [if_neg e, if_neg e, skD_c _ _ _ (by omega)]; exact x6 d (by omega)⟩ ⟨fun d hd => (v6 d hd).2.2.1, so⟩ rfl (by rw [← eq2]; exact kb) (by rw [← eq2]; exact k0)
                  rw [List.length_cons] at I'
                  refine V140o  (m2.SK S) ?_ ?_ ?_ <;> simp (disch := omega) only [oi_l, oi_n, z_nI, nIA, nIM, nIS, nIlt, nIle, nIeq, nIC, vpI, Nat.add_sub_cancel, Nat.not_le, Nat.not_lt, Nat.not_lt_zero, Nat.le_refl, not_true_eq_false, not_false_eq_true, false_imp_iff, true_imp_iff, forall_const, implies_true, Nat.reduceEqDiff, Nat.reduceLeDiff, Nat.reduceLT] <;> first | omega | exact I')
                refine V140n  S1 ?_ ?_ <;> simp (disch := omega) only [oi_l, oi_n, z_nI, nIA, nIM, nIS, nIlt, nIle, nIeq, nIC, vpI, Nat.add_sub_cancel, Nat.not_le, Nat.not_lt, Nat.not_lt_zero, Nat.le_refl, not_true_eq_false, not_false_eq_true, false_imp_iff, true_imp_iff, forall_const, implies_true, Nat.reduceEqDiff, Nat.reduceLeDiff, Nat.reduceLT, q7] <;> first | omega | exact C'
              refine V140l  S1 ?_ ?_ ?_ ?_ <;> simp (disch := omega) only [oi_l, oi_n, z_nI, nIA, nIM, nIS, nIlt, nIle, nIeq, nIC, vpI, Nat.add_sub_cancel, Nat.not_le, Nat.not_lt, Nat.not_lt_zero, Nat.le_refl, not_true_eq_false, not_false_eq_true, false_imp_iff, true_imp_iff, forall_const, implies_true, Nat.reduceEqDiff, Nat.reduceLeDiff, Nat.reduceLT, q7, show ¬ st.length = 8 by omega] <;> first | omega | exact r'
          · rw [if_neg par]
            have C' : WP 137 0 [some (.ref 35)] [] g1 (fun v1 h1 => WP 140 322 [some (.ref 35), some (.int (nI l.length)), some (.int (nI st.length)), some (.int hv), some (.int (nI 1)), some (.int (nI t)), d6, d7, d8] (v1.toList ++ []) h1 Q) := c137 S1 mt1 q7 (fun g2 m2 _ _ b7 b8' => V140m (m2.SK S1) (R340 g2 _ _ t d6 d7 d8 cs.2 csb (by rw [eq]; unfold p36; rw [if_neg no, if_pos par]) (m1.tr ⟨fun a h1 h2 => m2.1 a (by simp) h2, m2.2⟩) (fun j hj => by rw [m2.1 46 (by simp) (by decide)]; exact q46 j hj) b7 b8'))
            refine V140l  S1 ?_ ?_ ?_ ?_ <;> simp (disch := omega) only [oi_l, oi_n, z_nI, nIA, nIM, nIS, nIlt, nIle, nIeq, nIC, vpI, Nat.add_sub_cancel, Nat.not_le, Nat.not_lt, Nat.not_lt_zero, Nat.le_refl, not_true_eq_false, not_false_eq_true, false_imp_iff, true_imp_iff, forall_const, implies_true, Nat.reduceEqDiff, Nat.reduceLeDiff, Nat.reduceLT] <;> first | omega | exact C'
        have K272 : WP 140 272 [some (.ref 35), some (.int (nI l.length)), some (.int (nI st.length)), some (.int hv), some (.int (nI 1)), d5, d6, d7, d8] [] g Q := by
          refine V140g S' (c133 S' mt ?_)
          by_cases k2 : tkd ch n i = 2
          · rw [if_neg (by omega)]
            have C' : WP 139 0 [some (.ref 35), some (.int (nI 2)), some (.int (nI 50)), none] [] g (fun v1 h1 => WP 140 290 [some (.ref 35), some (.int (nI l.length)), some (.int (nI st.length)), some (.int hv), some (.int (nI 1)), d5, d6, d7, d8] (v1.toList ++ []) h1 Q) := by
              refine c139 (lo := 2) (hi := 50) S' hn h2 (by omega) (by omega) f4 mt e7 hcg (fun q => absurd k2 q) (fun q1 q2 g3 v m3 b7 b8' => ?_) (fun q1 q2 q3 g3 t3 mt3 => ?_)
              · have m3' : MF [46, 48, 53, 54] h g3 := mf.tr ⟨fun a h1 h2 => m3.1 a (by simp) h2, m3.2⟩
                have k' := kb 4 (tpl ch n i) (by rw [eq]; unfold p36; rw [if_pos ⟨k2, by omega⟩]) g3 m3' (fun j hj => by rw [m3.1 46 (by simp) (by decide)]; exact f46 j hj) b7 b8' (by decide)
                refine V140J  (m3'.SK S) ?_ ?_ ?_ <;> simp (disch := omega) only [oi_l, oi_n, z_nI, nIA, nIM, nIS, nIlt, nIle, nIeq, nIC, vpI, Nat.add_sub_cancel, Nat.not_le, Nat.not_lt, Nat.not_lt_zero, Nat.le_refl, not_true_eq_false, not_false_eq_true, false_imp_iff, true_imp_iff, forall_const, implies_true, Nat.reduceEqDiff, Nat.reduceLeDiff, Nat.reduceLT, b7, Nat.le_zero] <;> first | omega | exact k'
              · have vb := tk2 hn k2
                have b7 : zI g3 35 7 = nI 0 := by rw [t3.2.1 7 (by omega)]; exact e7
                have K' := K309 (by omega) g3 (tvl ch n i) d6 d7 d8 (by rw [if_pos k2]) (mf.tr (MF.T t3)) t3 mt3
                refine V140j  ((mf.tr (MF.T t3)).SK S) ?_ ?_ ?_ <;> simp (disch := omega) only [oi_l, oi_n, z_nI, nIA, nIM, nIS, nIlt, nIle, nIeq, nIC, vpI, Nat.add_sub_cancel, Nat.not_le, Nat.not_lt, Nat.not_lt_zero, Nat.le_refl, not_true_eq_false, not_false_eq_true, false_imp_iff, true_imp_iff, forall_const, implies_true, Nat.reduceEqDiff, Nat.reduceLeDiff, Nat.reduceLT, b7, show ¬ tvl ch n i = 0 by omega] <;> first | omega | exact K'
            refine V140i  S' ?_ ?_ <;> simp (disch := omega) only [oi_l, oi_n, z_nI, nIA, nIM, nIS, nIlt, nIle, nIeq, nIC, vpI, Nat.add_sub_cancel, Nat.not_le, Nat.not_lt, Nat.not_lt_zero, Nat.le_refl, not_true_eq_false, not_false_eq_true, false_imp_iff, true_imp_iff, forall_const, implies_true, Nat.reduceEqDiff, Nat.reduceLeDiff, Nat.reduceLT] <;> first | omega | exact C'
          · have k1 : tkd ch n i = 1 ∧ tvl ch n i = 28 := by omega
            rw [if_pos k1]
            have C' : WP 140 290 [some (.ref 35), some (.int (nI l.length)), some (.int (nI st.length)), some (.int hv), some (.int (nI 1)), d5, d6, d7, d8] [.int (nI 0)] g Q := by
              have D' : WP 128 0 [some (.ref 35), none] [] g (fun v1 h1 => WP 140 309 [some (.ref 35), some (.int (nI l.length)), some (.int (nI st.length)), some (.int hv), some (.int (nI 1)), some (.int (nI 0)), d6, d7, d8] (v1.toList ++ []) h1 Q) := nxt g i _ mf h2 mt (fun g2 t2 m2 mt2 => K309 (by omega) g2 0 d6 d7 d8 (by rw [if_neg k2]) m2 t2 mt2)
              refine V140j  S' ?_ ?_ ?_ <;> simp (disch := omega) only [oi_l, oi_n, z_nI, nIA, nIM, nIS, nIlt, nIle, nIeq, nIC, vpI, Nat.add_sub_cancel, Nat.not_le, Nat.not_lt, Nat.not_lt_zero, Nat.le_refl, not_true_eq_false, not_false_eq_true, false_imp_iff, true_imp_iff, forall_const, implies_true, Nat.reduceEqDiff, Nat.reduceLeDiff, Nat.reduceLT, e7] <;> first | omega | exact D'
            refine V140i  S' ?_ ?_ <;> simp (disch := omega) only [oi_l, oi_n, z_nI, nIA, nIM, nIS, nIlt, nIle, nIeq, nIC, vpI, Nat.add_sub_cancel, Nat.not_le, Nat.not_lt, Nat.not_lt_zero, Nat.le_refl, not_true_eq_false, not_false_eq_true, false_imp_iff, true_imp_iff, forall_const, implies_true, Nat.reduceEqDiff, Nat.reduceLeDiff, Nat.reduceLT] <;> first | omega | exact C'
        by_cases k2 : tkd ch n i = 2
        · have m9 := mt.1
          rw [k2] at m9
          refine V140e  S' ?_ ?_ <;> simp (disch := omega) only [oi_l, oi_n, z_nI, nIA, nIM, nIS, nIlt, nIle, nIeq, nIC, vpI, Nat.add_sub_cancel, Nat.not_le, Nat.not_lt, Nat.not_lt_zero, Nat.le_refl, not_true_eq_false, not_false_eq_true, false_imp_iff, true_imp_iff, forall_const, implies_true, Nat.reduceEqDiff, Nat.reduceLeDiff, Nat.reduceLT, m9] <;> first | omega | exact K272
        · have k1 : tkd ch n i = 1 ∧ tvl ch n i = 28 := by omega
          have m9 := mt.1
          rw [k1.1] at m9
          refine V140e  S' ?_ ?_ <;> simp (disch := omega) only [oi_l, oi_n, z_nI, nIA, nIM, nIS, nIlt, nIle, nIeq, nIC, vpI, Nat.add_sub_cancel, Nat.not_le, Nat.not_lt, Nat.not_lt_zero, Nat.le_refl, not_true_eq_false, not_false_eq_true, false_imp_iff, true_imp_iff, forall_const, implies_true, Nat.reduceEqDiff, Nat.reduceLeDiff, Nat.reduceLT, m9] <;> (try omega)
          refine c133 S' mt ?_
          rw [if_pos k1]
          refine V140f  S' ?_ ?_ <;> simp (disch := omega) only [oi_l, oi_n, z_nI, nIA, nIM, nIS, nIlt, nIle, nIeq, nIC, vpI, Nat.add_sub_cancel, Nat.not_le, Nat.not_lt, Nat.not_lt_zero, Nat.le_refl, not_true_eq_false, not_false_eq_true, false_imp_iff, true_imp_iff, forall_const, implies_true, Nat.reduceEqDiff, Nat.reduceLeDiff, Nat.reduceLT] <;> first | omega | exact K272
      · have pe := pcs_C (f := f) (l := l) (st := st) (has := has) cA cB
        have csb : cs1 ch n i ≤ 8 := by unfold cs1; split <;> omega
        have k2 : ¬ tkd ch n i = 2 := fun q => cB (Or.inl q)
        have w1 : ∀ z o mo hv (g3 : pm_H) d5 d6 d7 d8 k p, 1 ≤ k → k ≤ 8 → MF [46, 48, 53, 54] h g3 → F46 h g3 s → zI g3 35 7 = nI k → zI g3 35 8 = nI p → pcs ch n (f + 1) i l st has = .inl (k, p) → WP 140 433 [some (.ref 35), some (.int (nI z)), some (.int (nI o)), some (.int hv), some (.int mo), d5, d6, d7, d8] [] g3 Q := fun z o mo hv g3 d5 d6 d7 d8 k p hk hk8 m3 q46 b7 b8' e => by
          have k' := kb k p e g3 m3 q46 b7 b8' hk
          refine V140u  (m3.SK S) ?_ ?_ ?_ ?_ ?_ <;> simp (disch := omega) only [oi_l, oi_n, z_nI, nIA, nIM, nIS, nIlt, nIle, nIeq, nIC, vpI, Nat.add_sub_cancel, Nat.not_le, Nat.not_lt, Nat.not_lt_zero, Nat.le_refl, not_true_eq_false, not_false_eq_true, false_imp_iff, true_imp_iff, forall_const, implies_true, Nat.reduceEqDiff, Nat.reduceLeDiff, Nat.reduceLT, b7, Nat.le_zero, show ¬ k = 0 by omega] <;> first | omega | exact k'
        have wr : pcs ch n (f + 1) i l st has = .inl (cs1 ch n i, tpl ch n i) → ∀ d5 d6 d7 d8, WP 137 0 [some (.ref 35)] [] g (fun v1 h1 => WP 140 453 [some (.ref 35), some (.int (nI l.length)), some (.int (nI st.length)), some (.int hv), some (.int (nI 0)), d5, d6, d7, d8] (v1.toList ++ []) h1 Q) := fun e d5 d6 d7 d8 => c137 S' mt e7 (fun g2 m2 _ _ b7 b8' => V140v (m2.SK S') (kb _ _ e g2 (mf.tr ⟨fun a h1 h2 => m2.1 a (by simp) h2, m2.2⟩) (fun j hj => by rw [m2.1 46 (by simp) (by decide)]; exact f46 j hj) b7 b8' cs.1))
        -- no piece any more
        have K427 : ¬ ((tkd ch n i = 3 ∧ tvl ch n i = 41) ∧ has = true ∧ st ≠ []) → WP 140 427 [some (.ref 35), some (.int (nI l.length)), some (.int (nI st.length)), some (.int hv), some (.int (nI 1)), d5, d6, d7, d8] [] g Q := by
          intro no
          refine V140t S' ?_
          have U : WP 140 433 [some (.ref 35), some (.int (nI l.length)), some (.int (nI st.length)), some (.int hv), some (.int (nI 0)), d5, d6, d7, d8] [] g Q := by
            cases st with
            | nil =>
              simp only at pe
              cases has with
              | false =>
                have W' := wr (by rw [pe, if_neg (fun q => by cases q.2)]) d5 d6 d7 d8
                subst eh
                refine V140u  S' ?_ ?_ ?_ ?_ ?_ <;> simp (disch := omega) only [oi_l, oi_n, z_nI, nIA, nIM, nIS, nIlt, nIle, nIeq, nIC, vpI, Nat.add_sub_cancel, Nat.not_le, Nat.not_lt, Nat.not_lt_zero, Nat.le_refl, not_true_eq_false, not_false_eq_true, false_imp_iff, true_imp_iff, forall_const, implies_true, Nat.reduceEqDiff, Nat.reduceLeDiff, Nat.reduceLT, e7, v17, ↓reduceIte, Bool.false_eq_true] <;> first | omega | exact W'
              | true =>
                have k' := k0 i l (by rw [pe]; simp only [and_true]) h2 (yI (yI g 48 s (nI l.length)) 35 17 (nI (s + 1))) ((mf.I 48 _ _ (by decide) (by decide)).F 17 _ (by omega)) (fun j hj => by simp only [zI_yI, Nat.reduceEqDiff, if_false]; exact f46 j hj) (by simp only [zI_yI, Nat.reduceEqDiff, if_true, if_false]; rw [e48]) (mt.keep (fun k h1 h2 => by simp only [zI_yI, va_upA, Nat.reduceEqDiff, if_true, if_false]; rw [if_neg (by omega)]) rfl) (by simp [zI_yI, va_upA, e7]) (by simp [zI_yI, va_upA]) (fun j hj => by simp only [zI_yI, Nat.reduceEqDiff, if_false]; exact v3 j hj) v2 v4
                subst eh
                refine V140u  S' ?_ ?_ ?_ ?_ ?_ <;> simp (disch := omega) only [oi_l, oi_n, z_nI, nIA, nIM, nIS, nIlt, nIle, nIeq, nIC, vpI, Nat.add_sub_cancel, Nat.not_le, Nat.not_lt, Nat.not_lt_zero, Nat.le_refl, not_true_eq_false, not_false_eq_true, false_imp_iff, true_imp_iff, forall_const, implies_true, Nat.reduceEqDiff, Nat.reduceLeDiff, Nat.reduceLT, e7, v17, ↓reduceIte, List.length_nil] <;> first | omega | exact k'
            | cons x st' =>
              obtain ⟨a, t⟩ := x
              simp only at pe
              have W' := wr (by rw [pe, if_neg (fun q => no ⟨q.1, q.2, List.cons_ne_nil _ _⟩)]) d5 d6 d7 d8
              cases has with
              | false =>
                subst eh
                refine V140u  S' ?_ ?_ ?_ ?_ ?_ <;> simp (disch := omega) only [oi_l, oi_n, z_nI, nIA, nIM, nIS, nIlt, nIle, nIeq, nIC, vpI, Nat.add_sub_cancel, Nat.not_le, Nat.not_lt, Nat.not_lt_zero, Nat.le_refl, not_true_eq_false, not_false_eq_true, false_imp_iff, true_imp_iff, forall_const, implies_true, Nat.reduceEqDiff, Nat.reduceLeDiff, Nat.reduceLT, e7, v17, ↓reduceIte, Bool.false_eq_true] <;> first | omega | exact W'
              | true =>
                subst eh
                have v5' : st'.length + 1 ≤ 8 := v5
                simp only [List.length_cons] at W' ⊢
                refine V140u  S' ?_ ?_ ?_ ?_ ?_ <;> simp (disch := omega) only [oi_l, oi_n, z_nI, nIA, nIM, nIS, nIlt, nIle, nIeq, nIC, vpI, Nat.add_sub_cancel, Nat.not_le, Nat.not_lt, Nat.not_lt_zero, Nat.le_refl, not_true_eq_false, not_false_eq_true, false_imp_iff, true_imp_iff, forall_const, implies_true, Nat.reduceEqDiff, Nat.reduceLeDiff, Nat.reduceLT, e7, v17, ↓reduceIte, Nat.le_zero, Nat.succ_ne_zero] <;> first | omega | exact W'
          refine V140h  S' ?_ ?_ ?_ <;> simp (disch := omega) only [oi_l, oi_n, z_nI, nIA, nIM, nIS, nIlt, nIle, nIeq, nIC, vpI, Nat.add_sub_cancel, Nat.not_le, Nat.not_lt, Nat.not_lt_zero, Nat.le_refl, not_true_eq_false, not_false_eq_true, false_imp_iff, true_imp_iff, forall_const, implies_true, Nat.reduceEqDiff, Nat.reduceLeDiff, Nat.reduceLT, e7] <;> first | omega | exact U
        have K375 : WP 140 375 [some (.ref 35), some (.int (nI l.length)), some (.int (nI st.length)), some (.int hv), some (.int (nI 1)), d5, d6, d7, d8] [] g Q := by
          cases has with
          | false =>
            have K' := K427 (fun q => by cases q.2.1)
            subst eh
            refine V140p  S' ?_ ?_ ?_ <;> simp (disch := omega) only [oi_l, oi_n, z_nI, nIA, nIM, nIS, nIlt, nIle, nIeq, nIC, vpI, Nat.add_sub_cancel, Nat.not_le, Nat.not_lt, Nat.not_lt_zero, Nat.le_refl, not_true_eq_false, not_false_eq_true, false_imp_iff, true_imp_iff, forall_const, implies_true, Nat.reduceEqDiff, Nat.reduceLeDiff, Nat.reduceLT, ↓reduceIte, Bool.false_eq_true] <;> first | omega | exact K'
          | true =>
            cases st with
            | nil =>
              have K' := K427 (fun q => q.2.2 rfl)
              subst eh
              refine V140p  S' ?_ ?_ ?_ <;> simp (disch := omega) only [oi_l, oi_n, z_nI, nIA, nIM, nIS, nIlt, nIle, nIeq, nIC, vpI, Nat.add_sub_cancel, Nat.not_le, Nat.not_lt, Nat.not_lt_zero, Nat.le_refl, not_true_eq_false, not_false_eq_true, false_imp_iff, true_imp_iff, forall_const, implies_true, Nat.reduceEqDiff, Nat.reduceLeDiff, Nat.reduceLT, ↓reduceIte, List.length_nil] <;> first | omega | exact K'
            | cons x st' =>
              obtain ⟨a, t⟩ := x
              simp only at pe
              have vv := v6 st'.length (by simp)
              rw [skD_t] at vv
              simp only at vv
              simp only [List.length_cons] at v5 K427 ⊢
              have P' : WP 135 0 [some (.ref 35), some (.int (nI 41))] [] g (fun v1 h1 => WP 140 389 [some (.ref 35), some (.int (nI l.length)), some (.int (nI (st'.length + 1))), some (.int hv), some (.int (nI 1)), d5, d6, d7, d8] (v1.toList ++ []) h1 Q) := by
                refine c135 (c := 41) (by decide) S' mt ?_
                by_cases par : tkd ch n i = 3 ∧ tvl ch n i = 41
                · rw [if_pos par]
                  rw [if_pos ⟨par, trivial⟩] at pe
                  have C' : WP 141 0 [some (.ref 35), some (.int (nI a)), some (.int (nI l.length)), some (.int (nI t)), none, none, none, none] [] g (fun v1 h1 => WP 140 412 [some (.ref 35), some (.int (nI l.length)), some (.int (nI st'.length)), some (.int hv), some (.int (nI 1)), d5, d6, d7, d8] (v1.toList ++ []) h1 Q) := by
                    refine c141 S' hs v2 vv.2.2.1 vv.2.2.2 v4 v3 v17 e7 m10 (fun big g2 m2 q46 b7 b8' => ?_) (fun small g2 s2 q46 mp2 => ?_)
                    · rw [if_pos big] at pe
                      have m2' : MF [46, 48, 53, 54] h g2 := mf.tr ⟨fun a h1 h2 => m2.1 a (fun q => h1 (by simp at q; rw [q]; decide)) h2, m2.2⟩
                      have W' := w1 l.length st'.length (nI 1) hv g2 d5 d6 d7 d8 7 (tpl ch n i) (by decide) (by decide) m2' (f46.tr q46) b7 b8' pe
                      refine V140r  (m2'.SK S) ?_ ?_ <;> simp (disch := omega) only [oi_l, oi_n, z_nI, nIA, nIM, nIS, nIlt, nIle, nIeq, nIC, vpI, Nat.add_sub_cancel, Nat.not_le, Nat.not_lt, Nat.not_lt_zero, Nat.le_refl, not_true_eq_false, not_false_eq_true, false_imp_iff, true_imp_iff, forall_const, implies_true, Nat.reduceEqDiff, Nat.reduceLeDiff, Nat.reduceLT, b7] <;> (try omega)
                      refine V140h  (m2'.SK S) ?_ ?_ ?_ <;> simp (disch := omega) only [oi_l, oi_n, z_nI, nIA, nIM, nIS, nIlt, nIle, nIeq, nIC, vpI, Nat.add_sub_cancel, Nat.not_le, Nat.not_lt, Nat.not_lt_zero, Nat.le_refl, not_true_eq_false, not_false_eq_true, false_imp_iff, true_imp_iff, forall_const, implies_true, Nat.reduceEqDiff, Nat.reduceLeDiff, Nat.reduceLT, b7] <;> first | omega | exact W'
                    · rw [if_neg small] at pe
                      have r35 := s2.1 35 (by decide)
                      have m2' : MF [46, 48, 53, 54] h g2 := mf.tr ⟨fun a h1 h2 => s2.1 a (fun q => h1 (by simp at q; rw [q]; decide)), fun k _ _ _ => by rw [r35], s2.2.1, s2.2.2.1, s2.2.2.2.1, s2.2.2.2.2.2.1, s2.2.2.2.2.2.2⟩
                      have mt2 : MT g2 ch n i := mt.keep (fun k _ _ => by rw [r35]) (s2.2.2.2.2.1 35)
                      have b7 : zI g2 35 7 = nI 0 := by rw [r35]; exact e7
                      have cl8 : (clsL l a t).length ≤ 400 ∧ a ≤ (clsL l a t).length ∧ ∀ j, (clsL l a t).getD j 0 < 8 := by
                        unfold clsL
                        by_cases t0 : t = 0
                        · rw [if_pos t0]
                          refine ⟨by unfold revL; rw [mkL_len]; exact v2, by unfold revL; rw [mkL_len]; exact vv.2.2.1, gD8 (mkL_c (fun j _ => ?_))⟩
                          show (if j < a then l.getD j 0 else l.getD (a + (l.length - 1 - j)) 0) < 8
                          split <;> exact v4 _
                        · rw [if_neg t0]
                          refine ⟨by unfold repL; rw [mkL_len]; omega, by unfold repL; rw [mkL_len]; omega, gD8 (mkL_c (fun j _ => ?_))⟩
                          show (if j < a then l.getD j 0 else l.getD (a + (j - a) % (l.length - a)) 0) < 8
                          split <;> exact v4 _
                      have N' : WP 128 0 [some (.ref 35), none] [] g2 (fun v1 h1 => WP 140 424 [some (.ref 35), some (.int (nI (clsL l a t).length)), some (.int (nI st'.length)), some (.int hv), some (.int (nI 1)), d5, d6, d7, d8] (v1.toList ++ []) h1 Q) := nxt g2 i _ m2' h2 mt2 (fun g3 t3 m3 mt3 => V140s (m3.SK S) (ih (tnx ch n i) (clsL l a t) st' true g3 d5 d6 d7 d8 hv (by have := nb.2.2 (by omega); omega) nb.2.1 m3 (fun j hj => by rw [t3.1 46 (by decide)]; exact (f46.tr q46) j hj) (by rw [t3.1 48 (by decide), s2.1 48 (by decide)]; exact e48) mt3 (by rw [t3.2.1 7 (by omega)]; exact b7) (MV.T (show MV g2 s (clsL l a t) st' from ⟨by rw [r35]; exact v17, cl8.1, mp2, cl8.2.2, by omega, fun d hd => by
                          have := v6 d (by simp; omega)
                          rw [skD_c _ _ _ hd] at this
                          rw [s2.1 53 (by decide), s2.1 54 (by decide)]
                          have h5 := so.1 d hd
                          exact ⟨this.1, this.2.1, by omega, this.2.2.2⟩⟩) t3) so.2 eh (by rw [← pe]; exact kb) (by rw [← pe]; exact k0)))
                      refine V140r  (m2'.SK S) ?_ ?_ <;> simp (disch := omega) only [oi_l, oi_n, z_nI, nIA, nIM, nIS, nIlt, nIle, nIeq, nIC, vpI, Nat.add_sub_cancel, Nat.not_le, Nat.not_lt, Nat.not_lt_zero, Nat.le_refl, not_true_eq_false, not_false_eq_true, false_imp_iff, true_imp_iff, forall_const, implies_true, Nat.reduceEqDiff, Nat.reduceLeDiff, Nat.reduceLT, b7] <;> first | omega | exact N'
                  refine V140q  S' ?_ ?_ ?_ ?_ <;> simp (disch := omega) only [oi_l, oi_n, z_nI, nIA, nIM, nIS, nIlt, nIle, nIeq, nIC, vpI, Nat.add_sub_cancel, Nat.not_le, Nat.not_lt, Nat.not_lt_zero, Nat.le_refl, not_true_eq_false, not_false_eq_true, false_imp_iff, true_imp_iff, forall_const, implies_true, Nat.reduceEqDiff, Nat.reduceLeDiff, Nat.reduceLT, nIp, vv.1, vv.2.1] <;> first | omega | exact C'
                · rw [if_neg par]
                  have K' := K427 (fun q => par q.1)
                  refine V140q  S' ?_ ?_ ?_ ?_ <;> simp (disch := omega) only [oi_l, oi_n, z_nI, nIA, nIM, nIS, nIlt, nIle, nIeq, nIC, vpI, Nat.add_sub_cancel, Nat.not_le, Nat.not_lt, Nat.not_lt_zero, Nat.le_refl, not_true_eq_false, not_false_eq_true, false_imp_iff, true_imp_iff, forall_const, implies_true, Nat.reduceEqDiff, Nat.reduceLeDiff, Nat.reduceLT] <;> first | omega | exact K'
              subst eh
              refine V140p  S' ?_ ?_ ?_ <;> simp (disch := omega) only [oi_l, oi_n, z_nI, nIA, nIM, nIS, nIlt, nIle, nIeq, nIC, vpI, Nat.add_sub_cancel, Nat.not_le, Nat.not_lt, Nat.not_lt_zero, Nat.le_refl, not_true_eq_false, not_false_eq_true, false_imp_iff, true_imp_iff, forall_const, implies_true, Nat.reduceEqDiff, Nat.reduceLeDiff, Nat.reduceLT, ↓reduceIte, Nat.le_zero, Nat.succ_ne_zero] <;> first | omega | exact P'
        have K257 : WP 140 257 [some (.ref 35), some (.int (nI l.length)), some (.int (nI st.length)), some (.int hv), some (.int (nI 1)), d5, d6, d7, d8] [] g Q := by
          refine V140e  S' ?_ ?_ <;> simp (disch := omega) only [oi_l, oi_n, z_nI, nIA, nIM, nIS, nIlt, nIle, nIeq, nIC, vpI, Nat.add_sub_cancel, Nat.not_le, Nat.not_lt, Nat.not_lt_zero, Nat.le_refl, not_true_eq_false, not_false_eq_true, false_imp_iff, true_imp_iff, forall_const, implies_true, Nat.reduceEqDiff, Nat.reduceLeDiff, Nat.reduceLT, mt.1, k2] <;> (try omega)
          refine c133 S' mt ?_
          rw [if_neg (fun q => cB (Or.inr q))]
          refine V140f  S' ?_ ?_ <;> simp (disch := omega) only [oi_l, oi_n, z_nI, nIA, nIM, nIS, nIlt, nIle, nIeq, nIC, vpI, Nat.add_sub_cancel, Nat.not_le, Nat.not_lt, Nat.not_lt_zero, Nat.le_refl, not_true_eq_false, not_false_eq_true, false_imp_iff, true_imp_iff, forall_const, implies_true, Nat.reduceEqDiff, Nat.reduceLeDiff, Nat.reduceLT] <;> first | omega | exact K375
        by_cases nm : tkd ch n i = 1 ∧ tvl ch n i < 26
        · rw [if_pos nm]
          have zw := w8 mt nm.1 nm.2
          have v8 : ¬ tvl ch n i < 8 := fun q => cA ⟨nm.1, q⟩
          refine V140a S' (fun _ => K257) (fun _ _ => K257) (fun _ q => ?_)
          exact absurd (by rw [lgP, zw, Int64.lt_iff_toInt_lt, Int64.toInt_ofInt_of_le (by decide) (by decide), Int64.toInt_ofInt_of_le (by omega) (by omega)]; omega) q
        · rw [if_neg nm]
          exact V140a S' (fun _ => K257) (fun q => absurd rfl q) (fun q => absurd rfl q)

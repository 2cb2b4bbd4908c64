/-- the model's needs -/
theorem m173L {h : pm_H} {Q : Option Value → pm_H → Prop} {B : Bk} {c co w u : Nat} {d5 : Option Value} (S : SK h) (bo : bk_ok B) (mb : MB h B) (hc : c < B.2.length) (hco : co < 8) (hw : w ≤ 500) (hu : u ≤ 50) (e37 : zI h 35 37 = nI w) (e38 : zI h 35 38 = nI u)
    (k5 : (gl B c co w u (clL B c).2.length).length = 0 → ∀ g, Same [72] h g → Q (some (.int (Int32.ofInt (-1)))) (yI g 35 0 (Int32.ofInt 5)))
    (k7 : 8 < (gl B c co w u (clL B c).2.length).length → ∀ g, Same [72] h g → Q (some (.int (Int32.ofInt (-1)))) (yI g 35 0 (Int32.ofInt 7)))
    (k0 : ∀ g d5, 1 ≤ (gl B c co w u (clL B c).2.length).length → (gl B c co w u (clL B c).2.length).length ≤ 8 → Same [72] h g → (∀ i, i < (gl B c co w u (clL B c).2.length).length → zI g 72 i = nI ((gl B c co w u (clL B c).2.length).getD i 0)) → WP 173 126 [some (.ref 35), some (.int (nI c)), some (.int (nI co)), some (.int (nI (gl B c co w u (clL B c).2.length).length)), some (.int (nI 1)), d5] [] g Q) :
    WP 173 45 [some (.ref 35), some (.int (nI c)), some (.int (nI co)), some (.int (nI 0)), some (.int (nI (12 * c))), d5] [] h Q := by
  obtain ⟨u1, u2, u3, u4⟩ := bk_cl bo hc
  have hl := bo.2.1
  have hl1 := bo.1
  have L : ∀ m k (g : pm_H) d5, k + m = (clL B c).2.length → Same [72] h g → (∀ i, i < (gl B c co w u k).length → zI g 72 i = nI ((gl B c co w u k).getD i 0)) → WP 173 45 [some (.ref 35), some (.int (nI c)), some (.int (nI co)), some (.int (nI (gl B c co w u k).length)), some (.int (nI (12 * c + k))), d5] [] g Q := by
    intro m
    induction m with
    | zero =>
      intro k g d5 hk sg f
      obtain rfl : k = (clL B c).2.length := by omega
      have M := mb.keep (Kp.of sg rfl : Kp false h g)
      obtain ⟨m1, m2, m3⟩ := M.2.2.2 c hc
      have gll := gl_len B c co w u (clL B c).2.length
      by_cases z : (gl B c co w u (clL B c).2.length).length = 0
      · have k' := k5 z g sg
        refine V173L  (sg.SK S) ?_ ?_ ?_ ?_ ?_ ?_ <;> simp (disch := omega) only [oi_l, oi_n, z_nI, nIA, nIM, nIS, nIlt, nIle, nIeq, nIC, vpI, Nat.add_sub_cancel, Nat.not_le, Nat.not_lt, Nat.not_lt_zero, Nat.le_refl, not_true_eq_false, not_false_eq_true, false_imp_iff, true_imp_iff, forall_const, implies_true, Nat.reduceEqDiff, Nat.reduceLeDiff, Nat.reduceLT, m2, z] <;> first | omega | exact k'
      · by_cases z8 : (gl B c co w u (clL B c).2.length).length ≤ 8
        · have k' := k0 g d5 (by omega) z8 sg f
          refine V173L  (sg.SK S) ?_ ?_ ?_ ?_ ?_ ?_ <;> simp (disch := omega) only [oi_l, oi_n, z_nI, nIA, nIM, nIS, nIlt, nIle, nIeq, nIC, vpI, Nat.add_sub_cancel, Nat.not_le, Nat.not_lt, Nat.not_lt_zero, Nat.le_refl, not_true_eq_false, not_false_eq_true, false_imp_iff, true_imp_iff, forall_const, implies_true, Nat.reduceEqDiff, Nat.reduceLeDiff, Nat.reduceLT, m2, z, eq_true z8] <;> first | omega | exact k'
        · have k' := k7 (by omega) g sg
          refine V173L  (sg.SK S) ?_ ?_ ?_ ?_ ?_ ?_ <;> simp (disch := omega) only [oi_l, oi_n, z_nI, nIA, nIM, nIS, nIlt, nIle, nIeq, nIC, vpI, Nat.add_sub_cancel, Nat.not_le, Nat.not_lt, Nat.not_lt_zero, Nat.le_refl, not_true_eq_false, not_false_eq_true, false_imp_iff, true_imp_iff, forall_const, implies_true, Nat.reduceEqDiff, Nat.reduceLeDiff, Nat.reduceLT, m2, z, z8] <;> first | omega | exact k'
    | succ m ih =>
      intro k g d5 hk sg f
      have M := mb.keep (Kp.of sg rfl : Kp false h g)
      obtain ⟨m1, m2, m3⟩ := M.2.2.2 c hc
      obtain ⟨o1, o2, o3⟩ := m3 k (by omega)
      obtain ⟨p1, p2⟩ := u4 k (by omega)
      obtain ⟨-, v1, v2⟩ := M.2.2.1 _ p1
      have ok := bk_st bo p1
      refine V173L  (sg.SK S) ?_ ?_ ?_ ?_ ?_ ?_ <;> simp (disch := omega) only [oi_l, oi_n, z_nI, nIA, nIM, nIS, nIlt, nIle, nIeq, nIC, vpI, Nat.add_sub_cancel, Nat.not_le, Nat.not_lt, Nat.not_lt_zero, Nat.le_refl, not_true_eq_false, not_false_eq_true, false_imp_iff, true_imp_iff, forall_const, implies_true, Nat.reduceEqDiff, Nat.reduceLeDiff, Nat.reduceLT, m2, o1, show ¬ 12 * c + (clL B c).2.length ≤ 12 * c + k by omega] <;> (try omega)
      refine c167 (l := (stL B (ptL B c k).1).2) (sg.SK S) (by omega) v1 v2 ok.1.2.1 ok.1.2.2 hco hw hu (by rw [sg.1 35 (by decide)]; exact e37) (by rw [sg.1 35 (by decide)]; exact e38) ?_
      obtain ⟨y, ey⟩ : ∃ y, y = yvB B c co w u k := ⟨_, rfl⟩
      have yb : y ≤ 300000 := by
        rw [ey]
        have h400 : (lsB B c k).length ≤ 400 := ok.1.2.1
        have := cnt_le (lsB B c k) co (lsB B c k).length
        exact yrn_b2 (by omega) hw hu
      have gll := gl_len B c co w u k
      show WP 173 73 [some (.ref 35), some (.int (nI c)), some (.int (nI co)), some (.int (nI (gl B c co w u k).length)), some (.int (nI (12 * c + k))), d5] [.int (nI (yvB B c co w u k))] g Q
      rw [← ey]
      by_cases y0 : y = 0
      · have e : gl B c co w u (k + 1) = gl B c co w u k := by rw [gl, ← ey, if_pos y0]
        have I' := fun d5 => ih (k + 1) g d5 (by omega) sg (by rw [e]; exact f)
        rw [e] at I'
        subst y0
        refine V173r  (sg.SK S) ?_ ?_ ?_ <;> simp (disch := omega) only [oi_l, oi_n, z_nI, nIA, nIM, nIS, nIlt, nIle, nIeq, nIC, vpI, Nat.add_sub_cancel, Nat.not_le, Nat.not_lt, Nat.not_lt_zero, Nat.le_refl, not_true_eq_false, not_false_eq_true, false_imp_iff, true_imp_iff, forall_const, implies_true, Nat.reduceEqDiff, Nat.reduceLeDiff, Nat.reduceLT] <;> first | omega | exact I' _
      · have e : gl B c co w u (k + 1) = gl B c co w u k ++ [y] := by rw [gl, ← ey, if_neg y0]
        have el : (gl B c co w u (k + 1)).length = (gl B c co w u k).length + 1 := by rw [e]; simp
        have I' := fun d5 => ih (k + 1) (yI g 72 (gl B c co w u k).length (nI y)) d5 (by omega) (sg.I 72 _ _ (by decide)) (fun i h1 => by
            rw [e, gD_s]
            simp only [zI_yI, va_upA, if_true]
            by_cases c1 : i < (gl B c co w u k).length
            · rw [if_neg (by omega), if_pos c1]; exact f i c1
            · have c2 : i = (gl B c co w u k).length := by omega
              rw [if_pos c2, if_neg c1, if_pos c2])
        rw [el] at I'
        refine V173r  (sg.SK S) ?_ ?_ ?_ <;> simp (disch := omega) only [oi_l, oi_n, z_nI, nIA, nIM, nIS, nIlt, nIle, nIeq, nIC, vpI, Nat.add_sub_cancel, Nat.not_le, Nat.not_lt, Nat.not_lt_zero, Nat.le_refl, not_true_eq_false, not_false_eq_true, false_imp_iff, true_imp_iff, forall_const, implies_true, Nat.reduceEqDiff, Nat.reduceLeDiff, Nat.reduceLT, y0] <;> first | omega | exact I' _
  exact L _ 0 h d5 (Nat.zero_add _) Same.rf (fun i hi => absurd hi (Nat.not_lt_zero _))
theorem gl_b {B : Bk} {c co w u : Nat} (bo : bk_ok B) (hc : c < B.2.length) (hw : w ≤ 500) (hu : u ≤ 50) : ∀ k, k ≤ (clL B c).2.length → ∀ i, (gl B c co w u k).getD i 0 ≤ 300000
  | 0, _, i => by rw [gl, List.getD_eq_getElem?_getD]; simp
  | k + 1, hk, i => by
    have ih := gl_b (co := co) bo hc hw hu k (by omega)
    rw [gl]
    split
    · exact ih i
    · rw [gD_s]
      obtain ⟨u1, u2, u3, u4⟩ := bk_cl bo hc
      have ok := bk_st bo (u4 k (by omega)).1
      split
      · exact ih i
      · split
        · have h400 : (lsB B c k).length ≤ 400 := ok.1.2.1
          have := cnt_le (lsB B c k) co (lsB B c k).length
          exact yrn_b2 (by omega) hw hu
        · omega
/-- DYE -/
theorem p_dye {h : pm_H} {x1 x2 : Int32} (I : INV h) : PAIR 102 173 [.int x1, .int x2] h := by
  obtain ⟨S, n1, i1, i2, i3, i4, i5, B, bo, ⟨b, b2, hb⟩, b3⟩ := id I
  have m := MB.of b3
  have hl := bo.2.1
  have m16 := m.2.1
  obtain ⟨z1, z2, z3, ⟨w, w1, w2, w3⟩, ⟨u, y1, y2⟩, -⟩ := n1
  rw [w3] at z2
  rw [y2] at z3
  have S1 : ∀ v, SK (yI h 0 0 v) := fun v => ((Kp.rf.I0 0 _ rfl) : Kp false h _).SK S
  rcases i32c x1 with hx | ⟨c, hc, rfl⟩
  · refine V102 S b2 hb.2.1 (c16N S hx (V102n S ?_))
    refine V173  (S1 _) ?_ ?_ ?_ ?_ ?_ <;> simp (disch := omega) only [oi_l, oi_n, z_nI, nIA, nIM, nIS, nIlt, nIle, nIeq, nIC, vpI, Nat.add_sub_cancel, Nat.not_le, Nat.not_lt, Nat.not_lt_zero, Nat.le_refl, not_true_eq_false, not_false_eq_true, false_imp_iff, true_imp_iff, forall_const, implies_true, Nat.reduceEqDiff, Nat.reduceLeDiff, Nat.reduceLT, zI_yI, va_upA, Nat.reduceEqDiff, ↓reduceIte, ngLt hx]
    first | exact pfin I ((((Kp.rf.I0 0 _ rfl).I35 1 _ rfl).I35 0 _ rfl).I35 0 _ rfl) (by simp [zI_yI, va_upA]) | exact pfinT I ((((Kp.rf.I0 0 _ rfl).I35 1 _ rfl).I35 0 _ rfl).I35 0 _ rfl) (by simp [zI_yI, va_upA])
  by_cases hc2 : c < B.2.length
  · obtain ⟨u1, u2, u3, u4⟩ := bk_cl bo hc2
    have hc3 : ¬ B.2.length ≤ c := by omega
    refine V102 S b2 hb.2.1 (c16S S hb bo hc2 (fun q hq => ?_))
    rcases i32c x2 with hy | ⟨co, hco, rfl⟩
    · refine V102r  S ?_ ?_ ?_ <;> simp (disch := omega) only [oi_l, oi_n, z_nI, nIA, nIM, nIS, nIlt, nIle, nIeq, nIC, vpI, Nat.add_sub_cancel, Nat.not_le, Nat.not_lt, Nat.not_lt_zero, Nat.le_refl, not_true_eq_false, not_false_eq_true, false_imp_iff, true_imp_iff, forall_const, implies_true, Nat.reduceEqDiff, Nat.reduceLeDiff, Nat.reduceLT, ngLt hy]
      refine V173  (S1 _) ?_ ?_ ?_ ?_ ?_ <;> simp (disch := omega) only [oi_l, oi_n, z_nI, nIA, nIM, nIS, nIlt, nIle, nIeq, nIC, vpI, Nat.add_sub_cancel, Nat.not_le, Nat.not_lt, Nat.not_lt_zero, Nat.le_refl, not_true_eq_false, not_false_eq_true, false_imp_iff, true_imp_iff, forall_const, implies_true, Nat.reduceEqDiff, Nat.reduceLeDiff, Nat.reduceLT, zI_yI, va_upA, Nat.reduceEqDiff, ↓reduceIte, m16, hc3, ngLt hy]
      first | exact pfin I ((((Kp.rf.I0 0 _ rfl).I35 1 _ rfl).I35 0 _ rfl).I35 0 _ rfl) (by simp [zI_yI, va_upA]) | exact pfinT I ((((Kp.rf.I0 0 _ rfl).I35 1 _ rfl).I35 0 _ rfl).I35 0 _ rfl) (by simp [zI_yI, va_upA])
    by_cases hco8 : co < 8
    · refine V102r  S ?_ ?_ ?_ <;> simp (disch := omega) only [oi_l, oi_n, z_nI, nIA, nIM, nIS, nIlt, nIle, nIeq, nIC, vpI, Nat.add_sub_cancel, Nat.not_le, Nat.not_lt, Nat.not_lt_zero, Nat.le_refl, not_true_eq_false, not_false_eq_true, false_imp_iff, true_imp_iff, forall_const, implies_true, Nat.reduceEqDiff, Nat.reduceLeDiff, Nat.reduceLT, hco8]
      refine c118 S bo hc2 hq hco8 w2 y1 w3 y2 (fun g sg f => ?_)
      have K1 : Kp false h g := Kp.of sg rfl
      have gll := gl_len B c co w u (clL B c).2.length
      have glb := gl_b (co := co) bo hc2 w2 y1 (clL B c).2.length (Nat.le_refl _)
      -- the model up to its needs
      have ML : ∀ (g' : pm_H) (st : Int32) (Q' : Option Value → pm_H → Prop), Kp true h g' → ((gl B c co w u (clL B c).2.length).length = 0 → ∀ g2, Same [72] (yI (yI (yI g' 0 0 st) 35 1 (nI 0)) 35 0 (nI 0)) g2 → Q' (some (.int (Int32.ofInt (-1)))) (yI g2 35 0 (Int32.ofInt 5))) → (8 < (gl B c co w u (clL B c).2.length).length → ∀ g2, Same [72] (yI (yI (yI g' 0 0 st) 35 1 (nI 0)) 35 0 (nI 0)) g2 → Q' (some (.int (Int32.ofInt (-1)))) (yI g2 35 0 (Int32.ofInt 7))) → (∀ g2 d5, 1 ≤ (gl B c co w u (clL B c).2.length).length → (gl B c co w u (clL B c).2.length).length ≤ 8 → Same [72] (yI (yI (yI g' 0 0 st) 35 1 (nI 0)) 35 0 (nI 0)) g2 → (∀ i, i < (gl B c co w u (clL B c).2.length).length → zI g2 72 i = nI ((gl B c co w u (clL B c).2.length).getD i 0)) → WP 173 126 [some (.ref 35), some (.int (nI c)), some (.int (nI co)), some (.int (nI (gl B c co w u (clL B c).2.length).length)), some (.int (nI 1)), d5] [] g2 Q') → WP 173 0 [some (.ref 35), some (.int (nI c)), some (.int (nI co)), none, none, none] [] (yI g' 0 0 st) Q' := by
        intro g' st Q' K' q5 q7 q0
        have K2 : Kp true h (yI g' 0 0 st) := (K'.I0 0 _ rfl)
        have K3 : Kp true h (yI (yI (yI g' 0 0 st) 35 1 (nI 0)) 35 0 (nI 0)) := ((K2.I35 1 _ rfl).I35 0 _ rfl)
        have L' := m173L (d5 := none) (K3.SK S) bo (m.keep K3) hc2 hco8 w2 y1 (by rw [K3.2.2.1 37 rfl]; exact z2.symm) (by rw [K3.2.2.1 38 rfl]; exact z3.symm) q5 q7 q0
        refine V173  (K2.SK S) ?_ ?_ ?_ ?_ ?_ <;> simp (disch := omega) only [oi_l, oi_n, z_nI, nIA, nIM, nIS, nIlt, nIle, nIeq, nIC, vpI, Nat.add_sub_cancel, Nat.not_le, Nat.not_lt, Nat.not_lt_zero, Nat.le_refl, not_true_eq_false, not_false_eq_true, false_imp_iff, true_imp_iff, forall_const, implies_true, Nat.reduceEqDiff, Nat.reduceLeDiff, Nat.reduceLT, zI_yI, va_upA, Nat.reduceEqDiff, ↓reduceIte, K'.2.2.1 16 rfl, m16, hc3, show ¬ 8 ≤ co by omega] <;> first | omega | exact L'
      by_cases zl : (gl B c co w u (clL B c).2.length).length = 0
      · refine V102a  (K1.SK S) ?_ ?_ ?_ <;> simp (disch := omega) only [oi_l, oi_n, z_nI, nIA, nIM, nIS, nIlt, nIle, nIeq, nIC, vpI, Nat.add_sub_cancel, Nat.not_le, Nat.not_lt, Nat.not_lt_zero, Nat.le_refl, not_true_eq_false, not_false_eq_true, false_imp_iff, true_imp_iff, forall_const, implies_true, Nat.reduceEqDiff, Nat.reduceLeDiff, Nat.reduceLT, zl]
        refine ML g _ _ (Kp.of sg rfl) (fun _ g2 s2 => ?_) (fun q => by omega) (fun _ _ q => by omega)
        have K4 : Kp false h g2 := (((K1.I0 0 _ rfl).I35 1 _ rfl).I35 0 _ rfl).tr (Kp.of s2 rfl)
        exact pfin I (K4.I35 0 _ rfl) (by simp only [zI_yI, va_upA, Nat.reduceEqDiff, if_true, if_false]; rw [s2.1 0 (by decide)]; simp [zI_yI, va_upA]; rfl)
      by_cases l8 : (gl B c co w u (clL B c).2.length).length ≤ 8
      · obtain ⟨L, lL, l1, l2, l3⟩ := i2
        have lc : ∀ j, j < L → ∃ cc, cc < 8 ∧ zI h 21 j = nI cc := fun j hj => (l3 j hj).2.2.1
        have ly' : ∀ j, j < L → ∃ y, y ≤ 1000000 ∧ zI h 22 j = nI y := fun j hj => (l3 j hj).2.2.2
        have a1 : ∀ j, j < L → zI h 21 j = nI (zI h 21 j).toNatClampNeg ∧ (zI h 21 j).toNatClampNeg < 8 := fun j hj => by
          obtain ⟨cc, c1, c2⟩ := lc j hj
          rw [c2, nIC (by omega)]; exact ⟨rfl, c1⟩
        have a2 : ∀ j, j < L → zI h 22 j = nI (zI h 22 j).toNatClampNeg ∧ (zI h 22 j).toNatClampNeg ≤ 1000000 := fun j hj => by
          obtain ⟨cc, c1, c2⟩ := ly' j hj
          rw [c2, nIC (by omega)]; exact ⟨rfl, c1⟩
        have MM : ∀ (g2 : pm_H) d5 (Q' : Option Value → pm_H → Prop), Kp true h g2 → (∀ i, i < (gl B c co w u (clL B c).2.length).length → zI g2 72 i = nI ((gl B c co w u (clL B c).2.length).getD i 0)) → _ → _ → WP 173 126 [some (.ref 35), some (.int (nI c)), some (.int (nI co)), some (.int (nI (gl B c co w u (clL B c).2.length).length)), some (.int (nI 1)), d5] [] g2 Q' := fun g2 d5 Q' K e72 kn ks => m173M (nd := fun i => (gl B c co w u (clL B c).2.length).getD i 0) (ly := fun j => (zI h 22 j).toNatClampNeg) (lcol := fun j => (zI h 21 j).toNatClampNeg) (L := L) (K.SK S) (by omega) (by omega) l8 hco8 lL (fun j hj => (a2 j hj).2) (fun j hj => (a1 j hj).2) (fun p _ => glb p) (by rw [K.2.2.1 39 rfl]; exact l2) (fun j hj => by
          rw [K.r 55, K.r 56, ← (l3 j hj).1, ← (l3 j hj).2.1]; exact ⟨(a1 j hj).1, (a2 j hj).1⟩) e72 kn ks
        refine V102a  (K1.SK S) ?_ ?_ ?_ <;> simp (disch := omega) only [oi_l, oi_n, z_nI, nIA, nIM, nIS, nIlt, nIle, nIeq, nIC, vpI, Nat.add_sub_cancel, Nat.not_le, Nat.not_lt, Nat.not_lt_zero, Nat.le_refl, not_true_eq_false, not_false_eq_true, false_imp_iff, true_imp_iff, forall_const, implies_true, Nat.reduceEqDiff, Nat.reduceLeDiff, Nat.reduceLT, zl, eq_true l8]
        refine c25 (nd := fun i => (gl B c co w u (clL B c).2.length).getD i 0) (ly := fun j => (zI h 22 j).toNatClampNeg) (lcol := fun j => (zI h 21 j).toNatClampNeg) (L := L) (K1.SK S) (by omega) l8 hco8 lL (fun j hj => (a2 j hj).2) (fun j hj => (a1 j hj).2) (fun p _ => glb p) (by rw [K1.r 20]; exact l1) (fun j hj => by
          rw [K1.r 21, K1.r 22]; exact ⟨(a1 j hj).1, (a2 j hj).1⟩) (fun p hp => f p hp (by omega)) (fun no g3 s3 => ?_) (fun a va ma g3 s3 e34 => ?_)
        · have K4 : Kp false h g3 := K1.tr (Kp.of s3 rfl)
          refine V102b  (K4.SK S) ?_ ?_ <;> simp (disch := omega) only [oi_l, oi_n, z_nI, nIA, nIM, nIS, nIlt, nIle, nIeq, nIC, vpI, Nat.add_sub_cancel, Nat.not_le, Nat.not_lt, Nat.not_lt_zero, Nat.le_refl, not_true_eq_false, not_false_eq_true, false_imp_iff, true_imp_iff, forall_const, implies_true, Nat.reduceEqDiff, Nat.reduceLeDiff, Nat.reduceLT]
          refine ML g3 _ _ ((Kp.of sg rfl).tr (Kp.of s3 rfl)) (fun q => by omega) (fun q => by omega) (fun g4 d5 _ _ s4 e72 => ?_)
          have K5 : Kp false h g4 := (((K4.I0 0 _ rfl).I35 1 _ rfl).I35 0 _ rfl).tr (Kp.of s4 rfl)
          have K5' : Kp true h g4 := ((((((Kp.of sg rfl).tr (Kp.of s3 rfl)).I0 0 _ rfl).I35 1 _ rfl).I35 0 _ rfl)).tr (Kp.of s4 rfl)
          refine MM g4 d5 _ K5' e72 (fun _ g5 s5 => ?_) (fun a va => absurd va (no a))
          have K6 : Kp false h g5 := K5.tr (Kp.of s5 rfl)
          exact pfin I (K6.I35 0 _ rfl) (by simp only [zI_yI, va_upA, Nat.reduceEqDiff, if_true, if_false]; rw [s5.1 0 (by decide), s4.1 0 (by decide)]; simp [zI_yI, va_upA]; rfl)
        · have K4 : Kp true h g3 := (Kp.of sg rfl).tr (Kp.of s3 rfl)
          have K4' : Kp true h (yI g3 0 10 (nI (gl B c co w u (clL B c).2.length).length)) := (K4.I0 10 _ rfl)
          have nn := nI_ne1 (q := nz (uS a (fq (gl B c co w u (clL B c).2.length).length)) L) (by have := nz_le (uS a (fq (gl B c co w u (clL B c).2.length).length)) L; omega)
          refine V102b  (K4.SK S) ?_ ?_ <;> simp (disch := omega) only [oi_l, oi_n, z_nI, nIA, nIM, nIS, nIlt, nIle, nIeq, nIC, vpI, Nat.add_sub_cancel, Nat.not_le, Nat.not_lt, Nat.not_lt_zero, Nat.le_refl, not_true_eq_false, not_false_eq_true, false_imp_iff, true_imp_iff, forall_const, implies_true, Nat.reduceEqDiff, Nat.reduceLeDiff, Nat.reduceLT, nn]
          refine ML _ _ _ K4' (fun q => by omega) (fun q => by omega) (fun g4 d5 _ _ s4 e72 => ?_)
          have K5 : Kp true h g4 := ((((K4'.I0 0 _ rfl).I35 1 _ rfl).I35 0 _ rfl)).tr (Kp.of s4 rfl)
          refine MM g4 d5 _ K5 e72 (fun no => absurd va (no a)) (fun a' va' mi g5 s5 e49 e62 => ?_)
          have one := dye_one l8 lL va va' (ma a' va') (mi a va).1 (mi a va).2
          have K6 : Kp true h g5 := K5.tr (s5.K rfl)
          have r0 : zI g5 0 = va_up (va_up (zI g3 0) 10 (nI (gl B c co w u (clL B c).2.length).length)) 0 (nI 0) := by
            rw [s5.1.1 0 (by decide), s4.1 0 (by decide)]; simp [zI_yI]
          refine ⟨by rw [one.1], I.genO K6 ?_ ⟨(gl B c co w u (clL B c).2.length).length, by omega, ?_, e49, fun j hj => ?_⟩ ?_, ⟨_, rfl⟩, K6.cn⟩
          · rw [r0, s5.2 0 (by decide) (by decide) (by decide), s4.1 35 (by decide)]; simp [zI_yI, va_upA]
          · rw [r0]; simp [va_upA]
          · rw [e62 j hj, s5.1.1 34 (by decide), s4.1 34 (by decide)]
            simp only [zI_yI, Nat.reduceEqDiff, if_false]
            rw [e34 j hj, one.2 j hj]
          · rw [s5.1.1 16 (by decide), s4.1 16 (by decide)]
            simp only [zI_yI, Nat.reduceEqDiff, if_false]
            rw [s3.1 16 (by decide), sg.1 16 (by decide)]
            exact i5.2
      · refine V102a  (K1.SK S) ?_ ?_ ?_ <;> simp (disch := omega) only [oi_l, oi_n, z_nI, nIA, nIM, nIS, nIlt, nIle, nIeq, nIC, vpI, Nat.add_sub_cancel, Nat.not_le, Nat.not_lt, Nat.not_lt_zero, Nat.le_refl, not_true_eq_false, not_false_eq_true, false_imp_iff, true_imp_iff, forall_const, implies_true, Nat.reduceEqDiff, Nat.reduceLeDiff, Nat.reduceLT, zl, l8] <;> (try omega)
        refine ML g _ _ (Kp.of sg rfl) (fun q => by omega) (fun _ g2 s2 => ?_) (fun _ _ _ q => by omega)
        have K4 : Kp false h g2 := (((K1.I0 0 _ rfl).I35 1 _ rfl).I35 0 _ rfl).tr (Kp.of s2 rfl)
        exact pfin I (K4.I35 0 _ rfl) (by simp only [zI_yI, va_upA, Nat.reduceEqDiff, if_true, if_false]; rw [s2.1 0 (by decide)]; simp [zI_yI, va_upA]; rfl)
    · refine V102r  S ?_ ?_ ?_ <;> simp (disch := omega) only [oi_l, oi_n, z_nI, nIA, nIM, nIS, nIlt, nIle, nIeq, nIC, vpI, Nat.add_sub_cancel, Nat.not_le, Nat.not_lt, Nat.not_lt_zero, Nat.le_refl, not_true_eq_false, not_false_eq_true, false_imp_iff, true_imp_iff, forall_const, implies_true, Nat.reduceEqDiff, Nat.reduceLeDiff, Nat.reduceLT, hco8]
      refine V173  (S1 _) ?_ ?_ ?_ ?_ ?_ <;> simp (disch := omega) only [oi_l, oi_n, z_nI, nIA, nIM, nIS, nIlt, nIle, nIeq, nIC, vpI, Nat.add_sub_cancel, Nat.not_le, Nat.not_lt, Nat.not_lt_zero, Nat.le_refl, not_true_eq_false, not_false_eq_true, false_imp_iff, true_imp_iff, forall_const, implies_true, Nat.reduceEqDiff, Nat.reduceLeDiff, Nat.reduceLT, zI_yI, va_upA, Nat.reduceEqDiff, ↓reduceIte, m16, hc3, show 8 ≤ co by omega]
      first | exact pfin I ((((Kp.rf.I0 0 _ rfl).I35 1 _ rfl).I35 0 _ rfl).I35 0 _ rfl) (by simp [zI_yI, va_upA]) | exact pfinT I ((((Kp.rf.I0 0 _ rfl).I35 1 _ rfl).I35 0 _ rfl).I35 0 _ rfl) (by simp [zI_yI, va_upA])
  · refine V102 S b2 hb.2.1 (c16M hc S hb bo (by omega) (V102n S ?_))
    refine V173  (S1 _) ?_ ?_ ?_ ?_ ?_ <;> simp (disch := omega) only [oi_l, oi_n, z_nI, nIA, nIM, nIS, nIlt, nIle, nIeq, nIC, vpI, Nat.add_sub_cancel, Nat.not_le, Nat.not_lt, Nat.not_lt_zero, Nat.le_refl, not_true_eq_false, not_false_eq_true, false_imp_iff, true_imp_iff, forall_const, implies_true, Nat.reduceEqDiff, Nat.reduceLeDiff, Nat.reduceLT, zI_yI, va_upA, Nat.reduceEqDiff, ↓reduceIte, m16, show B.2.length ≤ c by omega]
    first | exact pfin I ((((Kp.rf.I0 0 _ rfl).I35 1 _ rfl).I35 0 _ rfl).I35 0 _ rfl) (by simp [zI_yI, va_upA]) | exact pfinT I ((((Kp.rf.I0 0 _ rfl).I35 1 _ rfl).I35 0 _ rfl).I35 0 _ rfl) (by simp [zI_yI, va_upA])

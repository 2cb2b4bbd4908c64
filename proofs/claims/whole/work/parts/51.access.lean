/-! cloths and parts of the book -/
def stL (B : Bk) (s : Nat) : BkS := B.1.getD s (0, [])
def clL (B : Bk) (c : Nat) : BkC := B.2.getD c (0, [])
def ptL (B : Bk) (c k : Nat) : BkP := (clL B c).2.getD k (0, 0, false)
theorem gDe {α : Type} {l : List α} {d : α} {k : Nat} (h : k < l.length) : l.getD k d = l[k] := by
  rw [List.getD_eq_getElem?_getD, List.getElem?_eq_getElem h]; rfl
theorem stLe {B : Bk} {s : Nat} (h : s < B.1.length) : stL B s = B.1[s] := gDe h
theorem clLe {B : Bk} {c : Nat} (h : c < B.2.length) : clL B c = B.2[c] := gDe h
theorem bk_st {B : Bk} (bo : bk_ok B) {s : Nat} (h : s < B.1.length) : okS (stL B s).2 ∧ (stL B s).1 < 26 := by
  rw [stLe h]
  obtain ⟨u1, u2, u3, u4⟩ := bo.2.2.1 _ (List.getElem_mem h)
  exact ⟨⟨u2, u3, gD8 u4⟩, u1⟩
theorem bk_cl {B : Bk} (bo : bk_ok B) {c : Nat} (h : c < B.2.length) : (clL B c).1 < 26 ∧ 1 ≤ (clL B c).2.length ∧ (clL B c).2.length ≤ 12 ∧ ∀ k, k < (clL B c).2.length → (ptL B c k).1 < B.1.length ∧ (ptL B c k).2.1 ≤ 50 := by
  obtain ⟨u1, u2, u3, u4⟩ := bo.2.2.2 _ (List.getElem_mem h)
  have e := clLe h
  refine ⟨by rw [e]; exact u1, by rw [e]; exact u2, by rw [e]; exact u3, fun k hk => ?_⟩
  unfold ptL
  rw [gDe hk]
  exact u4 _ (by have := List.getElem_mem hk; rw [← e]; exact this)
/-- a PART at a cell -/
def atW (h : pm_H) (w : Nat) (B : Bk) (p : BkP) : Prop := dyn h w ∧ zT h w = 5 ∧ (∃ r, zR h w 0 = some r ∧ atS h r (stL B p.1)) ∧ zI h w 1 = nI p.1 ∧ zI h w 2 = bI p.2.2 ∧ zI h w 3 = nI p.2.1
/-- a CLOTH at a cell -/
def atQ (h : pm_H) (q : Nat) (B : Bk) (c : Nat) : Prop := dyn h q ∧ zT h q = 3 ∧ zI h q 0 = nI (clL B c).1 ∧ zI h q 2 = nI (clL B c).2.length ∧ ∃ pa, zR h q 1 = some pa ∧ dyn h pa ∧ zT h pa = 105 ∧ zN h pa = 12 ∧ ∀ k, k < (clL B c).2.length → ∃ w, zR h pa k = some w ∧ atW h w B (ptL B c k)
theorem atW.keep {h g : pm_H} (hd : sameD h g) {w : Nat} {B : Bk} {p : BkP} (k : atW h w B p) : atW g w B p := by
  obtain ⟨k1, k2, ⟨r, k3, k4⟩, k5, k6, k7⟩ := k
  obtain ⟨a1, a2, a3, a4⟩ := hd.1 w k1
  exact ⟨k1.up hd, by rw [a1]; exact k2, ⟨r, by rw [a4]; exact k3, k4.keep hd⟩, by rw [a3]; exact k5, by rw [a3]; exact k6, by rw [a3]; exact k7⟩
theorem atQ.keep {h g : pm_H} (hd : sameD h g) {q : Nat} {B : Bk} {c : Nat} (k : atQ h q B c) : atQ g q B c := by
  obtain ⟨k1, k2, k3, k4, pa, k5, k6, k7, k8, k9⟩ := k
  obtain ⟨a1, a2, a3, a4⟩ := hd.1 q k1
  obtain ⟨b1, b2, b3, b4⟩ := hd.1 pa k6
  refine ⟨k1.up hd, by rw [a1]; exact k2, by rw [a3]; exact k3, by rw [a3]; exact k4, pa, by rw [a4]; exact k5, k6.up hd, by rw [b1]; exact k7, by rw [b2]; exact k8, fun k hk => ?_⟩
  obtain ⟨w, w1, w2⟩ := k9 k hk
  exact ⟨w, by rw [b4]; exact w1, w2.keep hd⟩
theorem atB.Q {h : pm_H} {b : Nat} {B : Bk} (hb : atB h b B) (bo : bk_ok B) {c : Nat} (hc : c < B.2.length) : ∃ ca q, zR h b 2 = some ca ∧ zT h ca = 104 ∧ zN h ca = 6 ∧ zR h ca c = some q ∧ atQ h q B c := by
  obtain ⟨q1, q2, q3, q4, sa, ca, q5, q6, q7, q8, q9, q10, q11, q12, q13, q14⟩ := hb
  obtain ⟨q, a1, a2, a3, a4, a5, pa, a6, a7, a8, a9, a10⟩ := q14 c hc
  have e := clLe hc
  have ok := bk_cl bo hc
  refine ⟨ca, q, q9, q11, q12, a1, a2, a3, by rw [e]; exact a4, by rw [e]; exact a5, pa, a6, a7, a8, a9, fun k hk => ?_⟩
  have hk' : k < B.2[c].2.length := by rw [← e]; exact hk
  obtain ⟨w, w1, w2, w3, ⟨r, w4, w5⟩, w6, w7, w8⟩ := a10 k hk'
  have ep : ptL B c k = B.2[c].2[k] := by
    unfold ptL
    rw [e]
    exact gDe hk'
  obtain ⟨o1, o2⟩ := ok.2.2.2 k hk
  rw [← ep] at w5 w6 w7 w8
  obtain ⟨p, p1, p2⟩ := q13 _ o1
  rw [w5] at p1
  obtain rfl : r = p := Option.some.inj p1
  rw [← stLe o1] at p2
  exact ⟨w, w1, w2, w3, ⟨r, w4, p2⟩, w6, w7, w8⟩
theorem B16_22n {h : pm_H} {Q : Option Value → pm_H → Prop} {d0 : Option Value} {d1 : Option Value} (k : Q (some .null) h) : WP 16 22 [d0, d1] [.null] h Q :=
  WP.rt rfl trivial k
theorem B21_22n {h : pm_H} {Q : Option Value → pm_H → Prop} {d0 : Option Value} {d1 : Option Value} (k : Q (some .null) h) : WP 21 22 [d0, d1] [.null] h Q :=
  WP.rt rfl trivial k
theorem V16 {h : pm_H} {Q : Option Value → pm_H → Prop} {b : Nat} {x1 : Int32} {b6 : Nat} {b9 : Nat} (S : SK h) (k2 : (x1 < 0) → Q (some (.null)) h) (t3 : (¬ x1 < 0) → zT h b = 2) (t5 : (¬ x1 < 0) → (x1 < (zI h b 3)) → zT h b = 2) (e7 : (¬ x1 < 0) → (x1 < (zI h b 3)) → zR h b 2 = some b6) (g8 : (¬ x1 < 0) → (x1 < (zI h b 3)) → (zT h b6 = 103 ∨ zT h b6 = 104 ∨ zT h b6 = 105) ∧ vp_in x1 (zN h b6)) (e10 : (¬ x1 < 0) → (x1 < (zI h b 3)) → zR h b6 (x1).toNatClampNeg = some b9) (k11 : (¬ x1 < 0) → (x1 < (zI h b 3)) → Q (some (.ref b9)) h) (k12 : (¬ x1 < 0) → (¬ x1 < (zI h b 3)) → Q (some (.null)) h) : WP 16 0 [some (.ref b), some (.int x1)] [] h Q :=
  B16_0 (fun c1 => B16_12 (B16_22n (k2 c1))) (fun c1 => B16_4 (t3 c1) (fun c4 => B16_16 (t5 c1 c4) (e7 c1 c4) (g8 c1 c4) (e10 c1 c4) (B16_22 (k11 c1 c4))) (fun c4 => B16_12 (B16_22n (k12 c1 c4))))
theorem V21 {h : pm_H} {Q : Option Value → pm_H → Prop} {q : Nat} {x1 : Int32} {b6 : Nat} {b9 : Nat} (S : SK h) (k2 : (x1 < 0) → Q (some (.null)) h) (t3 : (¬ x1 < 0) → zT h q = 3) (t5 : (¬ x1 < 0) → (x1 < (zI h q 2)) → zT h q = 3) (e7 : (¬ x1 < 0) → (x1 < (zI h q 2)) → zR h q 1 = some b6) (g8 : (¬ x1 < 0) → (x1 < (zI h q 2)) → (zT h b6 = 103 ∨ zT h b6 = 104 ∨ zT h b6 = 105) ∧ vp_in x1 (zN h b6)) (e10 : (¬ x1 < 0) → (x1 < (zI h q 2)) → zR h b6 (x1).toNatClampNeg = some b9) (k11 : (¬ x1 < 0) → (x1 < (zI h q 2)) → Q (some (.ref b9)) h) (k12 : (¬ x1 < 0) → (¬ x1 < (zI h q 2)) → Q (some (.null)) h) : WP 21 0 [some (.ref q), some (.int x1)] [] h Q :=
  B21_0 (fun c1 => B21_12 (B21_22n (k2 c1))) (fun c1 => B21_4 (t3 c1) (fun c4 => B21_16 (t5 c1 c4) (e7 c1 c4) (g8 c1 c4) (e10 c1 c4) (B21_22 (k11 c1 c4))) (fun c4 => B21_12 (B21_22n (k12 c1 c4))))
section ACC
variable {h : pm_H} {Q : Option Value → pm_H → Prop} {b : Nat} {B : Bk}
theorem c16N {x1 : Int32} (S : SK h) (hx : x1 < 0) (k : Q (some .null) h) : WP 16 0 [some (.ref b), some (.int x1)] [] h Q := by
  refine V16 (b6 := 0) (b9 := 0) S ?_ ?_ ?_ ?_ ?_ ?_ ?_ ?_ <;> simp (disch := omega) only [oi_l, oi_n, z_nI, nIA, nIM, nIS, nIlt, nIle, nIeq, nIC, vpI, Nat.add_sub_cancel, Nat.not_le, Nat.not_lt, Nat.not_lt_zero, Nat.le_refl, not_true_eq_false, not_false_eq_true, false_imp_iff, true_imp_iff, forall_const, implies_true, Nat.reduceEqDiff, Nat.reduceLeDiff, Nat.reduceLT, ngLt hx]
  exact k
theorem c16M {c : Nat} (hc2 : c < 2147483648) (S : SK h) (hb : atB h b B) (bo : bk_ok B) (hc : B.2.length ≤ c) (k : Q (some .null) h) : WP 16 0 [some (.ref b), some (.int (nI c))] [] h Q := by
  obtain ⟨q1, q2, q3, q4, -⟩ := hb
  have hl := bo.2.1
  refine V16 (b6 := 0) (b9 := 0) S ?_ ?_ ?_ ?_ ?_ ?_ ?_ ?_ <;> simp (disch := omega) only [oi_l, oi_n, z_nI, nIA, nIM, nIS, nIlt, nIle, nIeq, nIC, vpI, Nat.add_sub_cancel, Nat.not_le, Nat.not_lt, Nat.not_lt_zero, Nat.le_refl, not_true_eq_false, not_false_eq_true, false_imp_iff, true_imp_iff, forall_const, implies_true, Nat.reduceEqDiff, Nat.reduceLeDiff, Nat.reduceLT, q2, q4, show ¬ c < B.2.length by omega]
  exact k
theorem c16S {c : Nat} (S : SK h) (hb : atB h b B) (bo : bk_ok B) (hc : c < B.2.length) (k : ∀ q, atQ h q B c → Q (some (.ref q)) h) : WP 16 0 [some (.ref b), some (.int (nI c))] [] h Q := by
  obtain ⟨ca, q, c1, c2, c3, c4, c5⟩ := hb.Q bo hc
  obtain ⟨q1, q2, q3, q4, -⟩ := hb
  have hl := bo.2.1
  refine V16 (b6 := ca) (b9 := q) S ?_ ?_ ?_ ?_ ?_ ?_ ?_ ?_ <;> simp (disch := omega) only [oi_l, oi_n, z_nI, nIA, nIM, nIS, nIlt, nIle, nIeq, nIC, vpI, Nat.add_sub_cancel, Nat.not_le, Nat.not_lt, Nat.not_lt_zero, Nat.le_refl, not_true_eq_false, not_false_eq_true, false_imp_iff, true_imp_iff, forall_const, implies_true, Nat.reduceEqDiff, Nat.reduceLeDiff, Nat.reduceLT, q2, q4, c1, c2, c3, c4, hc, Nat.reduceEqDiff, true_or, or_true, true_and] <;> first | omega | exact k q c5
theorem c21N {x1 : Int32} {q : Nat} (S : SK h) (hx : x1 < 0) (k : Q (some .null) h) : WP 21 0 [some (.ref q), some (.int x1)] [] h Q := by
  refine V21 (b6 := 0) (b9 := 0) S ?_ ?_ ?_ ?_ ?_ ?_ ?_ ?_ <;> simp (disch := omega) only [oi_l, oi_n, z_nI, nIA, nIM, nIS, nIlt, nIle, nIeq, nIC, vpI, Nat.add_sub_cancel, Nat.not_le, Nat.not_lt, Nat.not_lt_zero, Nat.le_refl, not_true_eq_false, not_false_eq_true, false_imp_iff, true_imp_iff, forall_const, implies_true, Nat.reduceEqDiff, Nat.reduceLeDiff, Nat.reduceLT, ngLt hx]
  exact k
theorem c21M {q c p : Nat} (hp2 : p < 2147483648) (S : SK h) (hq : atQ h q B c) (h12 : (clL B c).2.length ≤ 12) (hp : (clL B c).2.length ≤ p) (k : Q (some .null) h) : WP 21 0 [some (.ref q), some (.int (nI p))] [] h Q := by
  obtain ⟨q1, q2, q3, q4, -⟩ := hq
  refine V21 (b6 := 0) (b9 := 0) S ?_ ?_ ?_ ?_ ?_ ?_ ?_ ?_ <;> simp (disch := omega) only [oi_l, oi_n, z_nI, nIA, nIM, nIS, nIlt, nIle, nIeq, nIC, vpI, Nat.add_sub_cancel, Nat.not_le, Nat.not_lt, Nat.not_lt_zero, Nat.le_refl, not_true_eq_false, not_false_eq_true, false_imp_iff, true_imp_iff, forall_const, implies_true, Nat.reduceEqDiff, Nat.reduceLeDiff, Nat.reduceLT, q2, q4, show ¬ p < (clL B c).2.length by omega]
  exact k
theorem c21S {q c p : Nat} (S : SK h) (hq : atQ h q B c) (h12 : (clL B c).2.length ≤ 12) (hp : p < (clL B c).2.length) (k : ∀ w, atW h w B (ptL B c p) → Q (some (.ref w)) h) : WP 21 0 [some (.ref q), some (.int (nI p))] [] h Q := by
  obtain ⟨q1, q2, q3, q4, pa, q5, q6, q7, q8, q9⟩ := hq
  obtain ⟨w, w1, w2⟩ := q9 p hp
  refine V21 (b6 := pa) (b9 := w) S ?_ ?_ ?_ ?_ ?_ ?_ ?_ ?_ <;> simp (disch := omega) only [oi_l, oi_n, z_nI, nIA, nIM, nIS, nIlt, nIle, nIeq, nIC, vpI, Nat.add_sub_cancel, Nat.not_le, Nat.not_lt, Nat.not_lt_zero, Nat.le_refl, not_true_eq_false, not_false_eq_true, false_imp_iff, true_imp_iff, forall_const, implies_true, Nat.reduceEqDiff, Nat.reduceLeDiff, Nat.reduceLT, q2, q4, q5, q7, q8, w1, hp, Nat.reduceEqDiff, true_or, or_true, true_and] <;> first | omega | exact k w w2
end ACC
/-- the model's book -/
def MB (h : pm_H) (B : Bk) : Prop := zI h 35 15 = nI B.1.length ∧ zI h 35 16 = nI B.2.length ∧ (∀ s, s < B.1.length → zI h 37 s = nI ((stL B s).1 + 1) ∧ zI h 38 s = nI (stL B s).2.length ∧ ∀ k, k < (stL B s).2.length → zI h 45 (400 * s + k) = nI ((stL B s).2.getD k 0)) ∧ ∀ c, c < B.2.length → zI h 39 c = nI ((clL B c).1 + 1) ∧ zI h 40 c = nI (clL B c).2.length ∧ ∀ k, k < (clL B c).2.length → zI h 41 (12 * c + k) = nI (ptL B c k).1 ∧ zI h 42 (12 * c + k) = nI (ptL B c k).2.1 ∧ zI h 43 (12 * c + k) = bI (ptL B c k).2.2
theorem MB.of {h : pm_H} {B : Bk} (b3 : I_mb B (zI h 35 15) (zI h 35 16) (zI h 37) (zI h 38) (zI h 39) (zI h 40) (zI h 41) (zI h 42) (zI h 43) (zI h 45)) : MB h B := by
  obtain ⟨k1, k2, k3, k4⟩ := b3
  refine ⟨k1, k2, fun s hs => ?_, fun c hc => ?_⟩
  · rw [stLe hs]; exact k3 s hs
  · have e := clLe hc
    obtain ⟨a1, a2, a3⟩ := k4 c hc
    refine ⟨by rw [e]; exact a1, by rw [e]; exact a2, fun k hk => ?_⟩
    have hk' : k < B.2[c].2.length := by rw [← e]; exact hk
    rw [show ptL B c k = B.2[c].2[k] by unfold ptL; rw [e]; exact gDe hk']
    exact a3 k hk'
theorem MB.keep {x : Bool} {h g : pm_H} {B : Bk} (m : MB h B) (k : Kp x h g) : MB g B := by
  have e : ∀ a, scr true a = false → a ≠ 0 → a ≠ 35 → zI g a = zI h a := fun a h1 h2 h3 => k.1 a (by cases x <;> simp only [scr, Bool.or_eq_false_iff, Bool.true_and, Bool.false_and] at h1 ⊢ <;> simp [h1]) h2 h3
  have q35 : ∀ k', fl35 true k' = false → zI g 35 k' = zI h 35 k' := fun k' hk' => k.2.2.1 k' (by cases x <;> simp only [fl35, Bool.or_eq_false_iff, Bool.true_and, Bool.false_and] at hk' ⊢ <;> simp [hk'])
  unfold MB
  rw [q35 15 rfl, q35 16 rfl, e 37 rfl (by decide) (by decide), e 38 rfl (by decide) (by decide), e 39 rfl (by decide) (by decide), e 40 rfl (by decide) (by decide), e 41 rfl (by decide) (by decide), e 42 rfl (by decide) (by decide), e 43 rfl (by decide) (by decide), e 45 rfl (by decide) (by decide)]
  exact m
/-- a seam's value -/
def sV (l1 : List Nat) (t1 : Bool) (s1 : Nat) (l2 : List Nat) (t2 : Bool) (s2 : Nat) : Int := 3 * (SM l1 t1 s1 l2 t2 s2 : Int) - SA l1 t1 s1 l2 t2 s2
def pV (B : Bk) (p q : BkP) : Int := sV (stL B p.1).2 p.2.2 p.2.1 (stL B q.1).2 q.2.2 q.2.1
theorem sV_b {l1 l2 : List Nat} (h : okS l1) (t1 t2 : Bool) (s1 s2 : Nat) : -400 ≤ sV l1 t1 s1 l2 t2 s2 ∧ sV l1 t1 s1 l2 t2 s2 ≤ 1200 := by
  have := SA_le (l2 := l2) h t1 t2 s1 s2
  have := SM_le (l2 := l2) h t1 t2 s1 s2
  unfold sV
  omega
theorem sV_n (l1 : List Nat) (t1 : Bool) (s1 : Nat) (l2 : List Nat) (t2 : Bool) (s2 : Nat) : Int32.ofInt 3 * nI (SM l1 t1 s1 l2 t2 s2) - nI (SA l1 t1 s1 l2 t2 s2) = Int32.ofInt (sV l1 t1 s1 l2 t2 s2) := by
  rw [← oi_n, ← oi_n, ← Int32.ofInt_mul, ← Int32.ofInt_sub]; rfl
theorem V51 {h : pm_H} {Q : Option Value → pm_H → Prop} {w1 : Nat} {w2 : Nat} {b2 : Nat} {b5 : Nat} (S : SK h) (t1 : zT h w1 = 5) (e3 : zR h w1 0 = some b2) (t4 : zT h w2 = 5) (e6 : zR h w2 0 = some b5) (k7 : WP 50 0 [some (.ref 11), some (.ref b2), some (.int (zI h w1 2)), some (.ref b5), some (.int (zI h w2 2)), some (.int ((zI h w2 3) - (zI h w1 3))), none, none, none, none, none, none, none, none, none, none, none, none, none] [] h (fun v1 h1 => WP 51 29 [some (.ref 11), some (.ref w1), some (.ref w2)] (v1.toList ++ []) h1 Q)) : WP 51 0 [some (.ref 11), some (.ref w1), some (.ref w2)] [] h Q :=
  B51_0 t1 e3 t4 e6 (S.T 11) k7
theorem V51r {h : pm_H} {Q : Option Value → pm_H → Prop} {w1 : Nat} {w2 : Nat} (S : SK h) (k1 : Q none h) : WP 51 29 [some (.ref 11), some (.ref w1), some (.ref w2)] [] h Q :=
  B51_29 k1
theorem V156 {h : pm_H} {Q : Option Value → pm_H → Prop} {x1 : Int32} {x2 : Int32} (S : SK h) (g1 : vp_in x1 72) (g2 : vp_in x1 72) (g3 : vp_in x1 72) (g4 : vp_in x2 72) (g5 : vp_in x2 72) (g6 : vp_in x2 72) (k7 : WP 155 0 [some (.ref 35), some (.int (zI h 41 (x1).toNatClampNeg)), some (.int (zI h 42 (x1).toNatClampNeg)), some (.int (zI h 43 (x1).toNatClampNeg)), some (.int (zI h 41 (x2).toNatClampNeg)), some (.int (zI h 42 (x2).toNatClampNeg)), some (.int (zI h 43 (x2).toNatClampNeg)), none, none, none, none, none] [] h (fun v1 h1 => WP 156 40 [some (.ref 35), some (.int x1), some (.int x2)] (v1.toList ++ []) h1 Q)) : WP 156 0 [some (.ref 35), some (.int x1), some (.int x2)] [] h Q :=
  B156_0 (S.T 35) (S.R 35 23) ⟨(S.T 41), (S.bd 41 g1)⟩ (S.R 35 24) ⟨(S.T 42), (S.bd 42 g2)⟩ (S.R 35 25) ⟨(S.T 43), (S.bd 43 g3)⟩ ⟨(S.T 41), (S.bd 41 g4)⟩ ⟨(S.T 42), (S.bd 42 g5)⟩ ⟨(S.T 43), (S.bd 43 g6)⟩ k7
theorem V156r {h : pm_H} {Q : Option Value → pm_H → Prop} {x1 : Int32} {x2 : Int32} (S : SK h) (k1 : Q (some (.int (((Int32.ofInt 3) * (zI h 35 64)) - (zI h 35 63)))) h) : WP 156 40 [some (.ref 35), some (.int x1), some (.int x2)] [] h Q :=
  B156_40 (S.T 35) k1
section VAL
variable {h : pm_H} {Q : Option Value → pm_H → Prop} {B : Bk}
/-- SeamGauge.measureParts -/
theorem c51 {w1 w2 : Nat} {p q : BkP} (S : SK h) (bo : bk_ok B) (a : atW h w1 B p) (b : atW h w2 B q) (hp : p.1 < B.1.length ∧ p.2.1 ≤ 50) (hq : q.1 < B.1.length ∧ q.2.1 ≤ 50) (k0 : ∀ g, Same [11] h g → zI g 11 0 = nI (SA (stL B p.1).2 p.2.2 p.2.1 (stL B q.1).2 q.2.2 q.2.1) → zI g 11 1 = nI (SM (stL B p.1).2 p.2.2 p.2.1 (stL B q.1).2 q.2.2 q.2.1) → Q none g) : WP 51 0 [some (.ref 11), some (.ref w1), some (.ref w2)] [] h Q := by
  obtain ⟨a1, a2, ⟨r, a3, a4⟩, a5, a6, a7⟩ := a
  obtain ⟨b1, b2, ⟨r', b3, b4⟩, b5, b6, b7⟩ := b
  refine V51 (b2 := r) (b5 := r') S a2 a3 b2 b3 ?_
  rw [a6, b6, a7, b7]
  refine c50 (s1 := p.2.1) (s2 := q.2.1) S a4 b4 (bk_st bo hp.1).1 (bk_st bo hq.1).1 hp.2 hq.2 (by rw [← oi_n, ← oi_n, ← Int32.ofInt_sub]) (fun g sg e0 e1 => ?_)
  exact V51r (sg.SK S) (k0 g sg e0 e1)
/-- valueOf of the model -/
theorem c156 {i j : Nat} {p q : BkP} (S : SK h) (bo : bk_ok B) (m : MB h B) (hi : i < 72) (hj : j < 72) (e41 : zI h 41 i = nI p.1) (e42 : zI h 42 i = nI p.2.1) (e43 : zI h 43 i = bI p.2.2) (r41 : zI h 41 j = nI q.1) (r42 : zI h 42 j = nI q.2.1) (r43 : zI h 43 j = bI q.2.2) (hp : p.1 < B.1.length ∧ p.2.1 ≤ 50) (hq : q.1 < B.1.length ∧ q.2.1 ≤ 50) (k0 : ∀ g, Sm h g → zI g 35 63 = nI (SA (stL B p.1).2 p.2.2 p.2.1 (stL B q.1).2 q.2.2 q.2.1) → zI g 35 64 = nI (SM (stL B p.1).2 p.2.2 p.2.1 (stL B q.1).2 q.2.2 q.2.1) → Q (some (.int (Int32.ofInt (pV B p q)))) g) : WP 156 0 [some (.ref 35), some (.int (nI i)), some (.int (nI j))] [] h Q := by
  have hl := bo.1
  obtain ⟨-, u1, u2⟩ := m.2.2.1 p.1 hp.1
  obtain ⟨-, v1, v2⟩ := m.2.2.1 q.1 hq.1
  refine V156  S ?_ ?_ ?_ ?_ ?_ ?_ ?_ <;> simp (disch := omega) only [oi_l, oi_n, z_nI, nIA, nIM, nIS, nIlt, nIle, nIeq, nIC, vpI, Nat.add_sub_cancel, Nat.not_le, Nat.not_lt, Nat.not_lt_zero, Nat.le_refl, not_true_eq_false, not_false_eq_true, false_imp_iff, true_imp_iff, forall_const, implies_true, Nat.reduceEqDiff, Nat.reduceLeDiff, Nat.reduceLT, e41, e42, e43, r41, r42, r43] <;> (try omega)
  refine c155 (l1 := (stL B p.1).2) (l2 := (stL B q.1).2) S (by omega) (by omega) u1 u2 v1 v2 (bk_st bo hp.1).1 (bk_st bo hq.1).1 hp.2 hq.2 (fun g sg e0 e1 => ?_)
  refine V156r (sg.1.SK S) ?_
  rw [e0, e1, sV_n]
  exact k0 g sg e0 e1
end VAL

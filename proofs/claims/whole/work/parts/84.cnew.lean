/-! new cells -/
theorem zT_yN (h : pm_H) (t l s a : Nat) : zT (yN h t l s) a = if a = zn h then t else zT h a := va_upA _ _ _ _
theorem zN_yN (h : pm_H) (t l s a : Nat) : zN (yN h t l s) a = if a = zn h then l else zN h a := va_upA _ _ _ _
theorem zI_yN (h : pm_H) (t l s a : Nat) : zI (yN h t l s) a = if a = zn h then (fun _ => 0) else zI h a := va_upA _ _ _ _
theorem zR_yN (h : pm_H) (t l s a : Nat) : zR (yN h t l s) a = if a = zn h then (fun _ => none) else zR h a := va_upA _ _ _ _
theorem zn_yN (h : pm_H) (t l s : Nat) : zn (yN h t l s) = zn h + 1 := id rfl
theorem zk_yN (h : pm_H) (t l s : Nat) : zk (yN h t l s) = zk h + s := id rfl
theorem zT_yI (h : pm_H) (a k : Nat) (v : Int32) : zT (yI h a k v) = zT h := id rfl
theorem zN_yI (h : pm_H) (a k : Nat) (v : Int32) : zN (yI h a k v) = zN h := id rfl
theorem zR_yI (h : pm_H) (a k : Nat) (v : Int32) : zR (yI h a k v) = zR h := id rfl
theorem zn_yI (h : pm_H) (a k : Nat) (v : Int32) : zn (yI h a k v) = zn h := id rfl
theorem zk_yI (h : pm_H) (a k : Nat) (v : Int32) : zk (yI h a k v) = zk h := id rfl
theorem zT_yA (h : pm_H) (a : Nat) (f : Nat → Int32) : zT (yA h a f) = zT h := id rfl
theorem zN_yA (h : pm_H) (a : Nat) (f : Nat → Int32) : zN (yA h a f) = zN h := id rfl
theorem zR_yA (h : pm_H) (a : Nat) (f : Nat → Int32) : zR (yA h a f) = zR h := id rfl
theorem zn_yA (h : pm_H) (a : Nat) (f : Nat → Int32) : zn (yA h a f) = zn h := id rfl
theorem zk_yA (h : pm_H) (a : Nat) (f : Nat → Int32) : zk (yA h a f) = zk h := id rfl
theorem zI_yA' (h : pm_H) (a : Nat) (f : Nat → Int32) (b : Nat) : zI (yA h a f) b = if b = a then f else zI h b := va_upA _ _ _ _
theorem zT_yR (h : pm_H) (a k : Nat) (v : Option Nat) : zT (yR h a k v) = zT h := id rfl
theorem zN_yR (h : pm_H) (a k : Nat) (v : Option Nat) : zN (yR h a k v) = zN h := id rfl
theorem zI_yR (h : pm_H) (a k : Nat) (v : Option Nat) : zI (yR h a k v) = zI h := id rfl
theorem zn_yR (h : pm_H) (a k : Nat) (v : Option Nat) : zn (yR h a k v) = zn h := id rfl
theorem zk_yR (h : pm_H) (a k : Nat) (v : Option Nat) : zk (yR h a k v) = zk h := id rfl
theorem zR_yR (h : pm_H) (a k : Nat) (v : Option Nat) (b : Nat) : zR (yR h a k v) b = if b = a then va_up (zR h a) k v else zR h b := va_upA _ _ _ _
/-- no cell that was there has changed -/
def Fr (h g : pm_H) : Prop := (∀ a, a < zn h → zT g a = zT h a ∧ zN g a = zN h a ∧ zI g a = zI h a ∧ zR g a = zR h a) ∧ zn h ≤ zn g
theorem Fr.rf {h : pm_H} : Fr h h := ⟨fun _ _ => ⟨rfl, rfl, rfl, rfl⟩, Nat.le_refl _⟩
theorem Fr.tr {h g f : pm_H} (p : Fr h g) (q : Fr g f) : Fr h f := ⟨fun a ha => by
  obtain ⟨a1, a2, a3, a4⟩ := p.1 a ha
  obtain ⟨b1, b2, b3, b4⟩ := q.1 a (Nat.lt_of_lt_of_le ha p.2)
  exact ⟨b1.trans a1, b2.trans a2, b3.trans a3, b4.trans a4⟩, Nat.le_trans p.2 q.2⟩
theorem Fr.N {h g : pm_H} (p : Fr h g) (t l s : Nat) : Fr h (yN g t l s) := ⟨fun a ha => by
  have := p.2
  rw [zT_yN, zN_yN, zI_yN, zR_yN, if_neg (by omega), if_neg (by omega), if_neg (by omega), if_neg (by omega)]
  exact p.1 a ha, by rw [zn_yN]; have := p.2; omega⟩
theorem Fr.I {h g : pm_H} (p : Fr h g) (a k : Nat) (v : Int32) (ha : zn h ≤ a) : Fr h (yI g a k v) := ⟨fun b hb => by
  rw [zT_yI, zN_yI, zR_yI, zI_yI, if_neg (by omega)]
  exact p.1 b hb, p.2⟩
theorem Fr.A {h g : pm_H} (p : Fr h g) (a : Nat) (f : Nat → Int32) (ha : zn h ≤ a) : Fr h (yA g a f) := ⟨fun b hb => by
  rw [zT_yA, zN_yA, zR_yA, zI_yA', if_neg (by omega)]
  exact p.1 b hb, p.2⟩
theorem Fr.R {h g : pm_H} (p : Fr h g) (a k : Nat) (v : Option Nat) (ha : zn h ≤ a) : Fr h (yR g a k v) := ⟨fun b hb => by
  rw [zT_yR, zN_yR, zI_yR, zR_yR, if_neg (by omega)]
  exact p.1 b hb, p.2⟩
theorem gD_none {α : Type} {l : List α} {a : Nat} {d : α} (h : l.length ≤ a) : l.getD a d = d := by
  rw [List.getD_eq_getElem?_getD, List.getElem?_eq_none h]; rfl
theorem stR_n {a k : Nat} (ha : 76 ≤ a) : stR a k = none :=
  (congrArg (fun z => List.getD z k none) (gD_none (Nat.le_trans (m := 76) (Nat.le_of_eq (by rfl)) ha))).trans rfl
theorem Fr.D {h g : pm_H} (p : Fr h g) (s : SK h) : sameD h g := ⟨fun a ha => p.1 a ha.2, by rw [(p.1 0 (by have := s.2.2.2; omega)).2.2.2], p.2⟩
theorem Fr.SK {h g : pm_H} (p : Fr h g) (s : SK h) : SK g := by
  have z := s.2.2.2
  refine ⟨fun a ha => (p.1 a (by omega)).1.trans (s.1 a ha), fun a ha => (p.1 a (by omega)).2.1.trans (s.2.1 a ha), fun a k hk => ?_, Nat.le_trans z p.2⟩
  by_cases ha : a < 76
  · rw [(p.1 a (by omega)).2.2.2]; exact s.2.2.1 a k hk
  · exfalso
    rw [stR_n (by omega)] at hk; cases hk
/-! where blocks end, from the front -/
abbrev eb (l : List Nat) (k : Nat) : Prop := l.length ≤ k + 1 ∨ ¬ l.getD k 0 = l.getD (k + 1) 0
def bkp (l : List Nat) : Nat → List Nat
  | 0 => []
  | k + 1 => if eb l k then bkp l k ++ [k + 1] else bkp l k
theorem bkp_b (l : List Nat) : ∀ k, (bkp l k).length ≤ k ∧ ∀ c ∈ bkp l k, c ≤ k
  | 0 => ⟨Nat.le_refl _, fun c hc => absurd hc List.not_mem_nil⟩
  | k + 1 => by
    have ih := bkp_b l k
    rw [bkp]
    split
    · refine ⟨by simp; omega, fun c hc => ?_⟩
      rcases List.mem_append.mp hc with hc | hc
      · have := ih.2 c hc; omega
      · rw [List.mem_singleton.mp hc]; exact Nat.le_refl _
    · exact ⟨by omega, fun c hc => by have := ih.2 c hc; omega⟩
theorem bk_step {l : List Nat} {k : Nat} (hk : k < l.length) : bk_ends k (l.drop k) = if eb l k then (k + 1) :: bk_ends (k + 1) (l.drop (k + 1)) else bk_ends (k + 1) (l.drop (k + 1)) := by
  rw [List.drop_eq_getElem_cons hk]
  by_cases h1 : k + 1 < l.length
  · rw [List.drop_eq_getElem_cons h1, bk_ends]
    have e1 : l.getD k 0 = l[k] := by rw [List.getD_eq_getElem?_getD, List.getElem?_eq_getElem hk]; rfl
    have e2 : l.getD (k + 1) 0 = l[k + 1] := by rw [List.getD_eq_getElem?_getD, List.getElem?_eq_getElem h1]; rfl
    by_cases q : l[k] = l[k + 1]
    · rw [if_pos q, if_neg (by rw [eb, e1, e2]; omega)]
    · rw [if_neg q, if_pos (by rw [eb, e1, e2]; omega)]
  · rw [List.drop_eq_nil_of_le (show l.length ≤ k + 1 by omega), if_pos (Or.inl (by omega))]
    rfl
theorem bkp_e {l : List Nat} : ∀ k, k ≤ l.length → bk_ends 0 l = bkp l k ++ bk_ends k (l.drop k)
  | 0, _ => rfl
  | k + 1, h => by
    rw [bkp_e k (by omega), bk_step (by omega), bkp]
    split
    · simp
    · rfl
theorem bkp_a {l : List Nat} : bk_ends 0 l = bkp l l.length := by
  rw [bkp_e l.length (Nat.le_refl _), List.drop_length]
  show bkp l l.length ++ [] = _
  rw [List.append_nil]
theorem bkp_m {l : List Nat} {k : Nat} (h : k ≤ l.length) : (bkp l k).length ≤ (bk_ends 0 l).length := by
  rw [bkp_e k h]; simp
theorem V56 {h : pm_H} {Q : Option Value → pm_H → Prop} {q : Nat} {d1 : Option Value} {d2 : Option Value} (S : SK h) (k1 : WP 56 4 [some (.ref q), some (.int (Int32.ofInt 0)), some (.int (Int32.ofInt 0))] [] h Q) : WP 56 0 [some (.ref q), d1, d2] [] h Q :=
  B56_0 (k1)
theorem V56L {h : pm_H} {Q : Option Value → pm_H → Prop} {q : Nat} {c : Nat} {k : Nat} (S : SK h) (g1 : 100 ≤ zT h q ∧ zT h q ≤ 105) (k3 : ((Int32.ofInt (zN h q)) ≤ (nI k)) → Q (some (.int (nI c))) h) (g4 : (¬ (Int32.ofInt (zN h q)) ≤ (nI k)) → 100 ≤ zT h q ∧ zT h q ≤ 105) (k7 : (¬ (Int32.ofInt (zN h q)) ≤ (nI k)) → ((Int32.ofInt (zN h q)) ≤ ((nI k) + (Int32.ofInt 1))) → WP 56 4 [some (.ref q), some (.int ((nI c) + (Int32.ofInt 1))), some (.int ((nI k) + (Int32.ofInt 1)))] [] h Q) (t8 : (¬ (Int32.ofInt (zN h q)) ≤ (nI k)) → (¬ (Int32.ofInt (zN h q)) ≤ ((nI k) + (Int32.ofInt 1))) → zT h q = 101) (g9 : (¬ (Int32.ofInt (zN h q)) ≤ (nI k)) → (¬ (Int32.ofInt (zN h q)) ≤ ((nI k) + (Int32.ofInt 1))) → vp_in (nI k) (zN h q)) (t10 : (¬ (Int32.ofInt (zN h q)) ≤ (nI k)) → (¬ (Int32.ofInt (zN h q)) ≤ ((nI k) + (Int32.ofInt 1))) → zT h q = 101) (g11 : (¬ (Int32.ofInt (zN h q)) ≤ (nI k)) → (¬ (Int32.ofInt (zN h q)) ≤ ((nI k) + (Int32.ofInt 1))) → vp_in ((nI k) + (Int32.ofInt 1)) (zN h q)) (k14 : (¬ (Int32.ofInt (zN h q)) ≤ (nI k)) → (¬ (Int32.ofInt (zN h q)) ≤ ((nI k) + (Int32.ofInt 1))) → ((zI h q ((nI k)).toNatClampNeg) = (zI h q (((nI k) + (Int32.ofInt 1))).toNatClampNeg)) → WP 56 4 [some (.ref q), some (.int (nI c)), some (.int ((nI k) + (Int32.ofInt 1)))] [] h Q) (k16 : (¬ (Int32.ofInt (zN h q)) ≤ (nI k)) → (¬ (Int32.ofInt (zN h q)) ≤ ((nI k) + (Int32.ofInt 1))) → (¬ (zI h q ((nI k)).toNatClampNeg) = (zI h q (((nI k) + (Int32.ofInt 1))).toNatClampNeg)) → WP 56 4 [some (.ref q), some (.int ((nI c) + (Int32.ofInt 1))), some (.int ((nI k) + (Int32.ofInt 1)))] [] h Q) : WP 56 4 [some (.ref q), some (.int (nI c)), some (.int (nI k))] [] h Q :=
  B56_4 g1 (fun c2 => B56_27 (k3 c2)) (fun c2 => B56_10 (B57_0 (g4 c2) (fun c5 => B57_19 (B57_24 oi1 (B56_15 (fun q => absurd q (by decide)) (fun _ => B56_18 (B56_21 (k7 c2 c5)))))) (fun c5 => B57_8 ⟨(t8 c2 c5), (g9 c2 c5)⟩ ⟨(t10 c2 c5), (g11 c2 c5)⟩ (fun c12 => B57_23 (B57_24 oi0 (B56_15 (fun _ => B56_21 (k14 c2 c5 c12)) (fun q => absurd (by decide) q)))) (fun c12 => B57_19 (B57_24 oi1 (B56_15 (fun q => absurd q (by decide)) (fun _ => B56_18 (B56_21 (k16 c2 c5 c12)))))))))
theorem V55L {h : pm_H} {Q : Option Value → pm_H → Prop} {q : Nat} {e : Nat} {c : Nat} {k : Nat} (S : SK h) (g1 : 100 ≤ zT h q ∧ zT h q ≤ 105) (k3 : ((Int32.ofInt (zN h q)) ≤ (nI k)) → Q (some (.ref e)) h) (g4 : (¬ (Int32.ofInt (zN h q)) ≤ (nI k)) → 100 ≤ zT h q ∧ zT h q ≤ 105) (g7 : (¬ (Int32.ofInt (zN h q)) ≤ (nI k)) → ((Int32.ofInt (zN h q)) ≤ ((nI k) + (Int32.ofInt 1))) → 100 ≤ zT h e ∧ zT h e ≤ 105) (k9 : (¬ (Int32.ofInt (zN h q)) ≤ (nI k)) → ((Int32.ofInt (zN h q)) ≤ ((nI k) + (Int32.ofInt 1))) → ((Int32.ofInt (zN h e)) ≤ (nI c)) → WP 55 11 [some (.ref q), some (.ref e), some (.int (nI c)), some (.int ((nI k) + (Int32.ofInt 1)))] [] h Q) (t10 : (¬ (Int32.ofInt (zN h q)) ≤ (nI k)) → ((Int32.ofInt (zN h q)) ≤ ((nI k) + (Int32.ofInt 1))) → (¬ (Int32.ofInt (zN h e)) ≤ (nI c)) → zT h e = 100) (g11 : (¬ (Int32.ofInt (zN h q)) ≤ (nI k)) → ((Int32.ofInt (zN h q)) ≤ ((nI k) + (Int32.ofInt 1))) → (¬ (Int32.ofInt (zN h e)) ≤ (nI c)) → vp_in (nI c) (zN h e)) (k12 : (¬ (Int32.ofInt (zN h q)) ≤ (nI k)) → ((Int32.ofInt (zN h q)) ≤ ((nI k) + (Int32.ofInt 1))) → (¬ (Int32.ofInt (zN h e)) ≤ (nI c)) → WP 55 11 [some (.ref q), some (.ref e), some (.int ((nI c) + (Int32.ofInt 1))), some (.int ((nI k) + (Int32.ofInt 1)))] [] (yI h e ((nI c)).toNatClampNeg ((nI k) + (Int32.ofInt 1))) Q) (t13 : (¬ (Int32.ofInt (zN h q)) ≤ (nI k)) → (¬ (Int32.ofInt (zN h q)) ≤ ((nI k) + (Int32.ofInt 1))) → zT h q = 101) (g14 : (¬ (Int32.ofInt (zN h q)) ≤ (nI k)) → (¬ (Int32.ofInt (zN h q)) ≤ ((nI k) + (Int32.ofInt 1))) → vp_in (nI k) (zN h q)) (t15 : (¬ (Int32.ofInt (zN h q)) ≤ (nI k)) → (¬ (Int32.ofInt (zN h q)) ≤ ((nI k) + (Int32.ofInt 1))) → zT h q = 101) (g16 : (¬ (Int32.ofInt (zN h q)) ≤ (nI k)) → (¬ (Int32.ofInt (zN h q)) ≤ ((nI k) + (Int32.ofInt 1))) → vp_in ((nI k) + (Int32.ofInt 1)) (zN h q)) (k19 : (¬ (Int32.ofInt (zN h q)) ≤ (nI k)) → (¬ (Int32.ofInt (zN h q)) ≤ ((nI k) + (Int32.ofInt 1))) → ((zI h q ((nI k)).toNatClampNeg) = (zI h q (((nI k) + (Int32.ofInt 1))).toNatClampNeg)) → WP 55 11 [some (.ref q), some (.ref e), some (.int (nI c)), some (.int ((nI k) + (Int32.ofInt 1)))] [] h Q) (g21 : (¬ (Int32.ofInt (zN h q)) ≤ (nI k)) → (¬ (Int32.ofInt (zN h q)) ≤ ((nI k) + (Int32.ofInt 1))) → (¬ (zI h q ((nI k)).toNatClampNeg) = (zI h q (((nI k) + (Int32.ofInt 1))).toNatClampNeg)) → 100 ≤ zT h e ∧ zT h e ≤ 105) (k23 : (¬ (Int32.ofInt (zN h q)) ≤ (nI k)) → (¬ (Int32.ofInt (zN h q)) ≤ ((nI k) + (Int32.ofInt 1))) → (¬ (zI h q ((nI k)).toNatClampNeg) = (zI h q (((nI k) + (Int32.ofInt 1))).toNatClampNeg)) → ((Int32.ofInt (zN h e)) ≤ (nI c)) → WP 55 11 [some (.ref q), some (.ref e), some (.int (nI c)), some (.int ((nI k) + (Int32.ofInt 1)))] [] h Q) (t24 : (¬ (Int32.ofInt (zN h q)) ≤ (nI k)) → (¬ (Int32.ofInt (zN h q)) ≤ ((nI k) + (Int32.ofInt 1))) → (¬ (zI h q ((nI k)).toNatClampNeg) = (zI h q (((nI k) + (Int32.ofInt 1))).toNatClampNeg)) → (¬ (Int32.ofInt (zN h e)) ≤ (nI c)) → zT h e = 100) (g25 : (¬ (Int32.ofInt (zN h q)) ≤ (nI k)) → (¬ (Int32.ofInt (zN h q)) ≤ ((nI k) + (Int32.ofInt 1))) → (¬ (zI h q ((nI k)).toNatClampNeg) = (zI h q (((nI k) + (Int32.ofInt 1))).toNatClampNeg)) → (¬ (Int32.ofInt (zN h e)) ≤ (nI c)) → vp_in (nI c) (zN h e)) (k26 : (¬ (Int32.ofInt (zN h q)) ≤ (nI k)) → (¬ (Int32.ofInt (zN h q)) ≤ ((nI k) + (Int32.ofInt 1))) → (¬ (zI h q ((nI k)).toNatClampNeg) = (zI h q (((nI k) + (Int32.ofInt 1))).toNatClampNeg)) → (¬ (Int32.ofInt (zN h e)) ≤ (nI c)) → WP 55 11 [some (.ref q), some (.ref e), some (.int ((nI c) + (Int32.ofInt 1))), some (.int ((nI k) + (Int32.ofInt 1)))] [] (yI h e ((nI c)).toNatClampNeg ((nI k) + (Int32.ofInt 1))) Q) : WP 55 11 [some (.ref q), some (.ref e), some (.int (nI c)), some (.int (nI k))] [] h Q :=
  B55_11 g1 (fun c2 => B55_46 (k3 c2)) (fun c2 => B55_17 (B57_0 (g4 c2) (fun c5 => B57_19 (B57_24 oi1 (B55_22 (fun q => absurd q (by decide)) (fun _ => B55_25 (g7 c2 c5) (fun c8 => B55_40 (k9 c2 c5 c8)) (fun c8 => B55_31 ⟨(t10 c2 c5 c8), (g11 c2 c5 c8)⟩ (B55_40 (k12 c2 c5 c8))))))) (fun c5 => B57_8 ⟨(t13 c2 c5), (g14 c2 c5)⟩ ⟨(t15 c2 c5), (g16 c2 c5)⟩ (fun c17 => B57_23 (B57_24 oi0 (B55_22 (fun _ => B55_40 (k19 c2 c5 c17)) (fun q => absurd (by decide) q)))) (fun c17 => B57_19 (B57_24 oi1 (B55_22 (fun q => absurd q (by decide)) (fun _ => B55_25 (g21 c2 c5 c17) (fun c22 => B55_40 (k23 c2 c5 c17 c22)) (fun c22 => B55_31 ⟨(t24 c2 c5 c17 c22), (g25 c2 c5 c17 c22)⟩ (B55_40 (k26 c2 c5 c17 c22))))))))))
section NEWS
variable {h : pm_H} {Q : Option Value → pm_H → Prop} {l : List Nat} {q : Nat}
theorem c56 (K : SK h) (t : zT h q = 101) (hN : zN h q = l.length) (hl : l.length ≤ 400) (h8 : ∀ j, l.getD j 0 < 8) (f : ∀ j, j < l.length → zI h q j = nI (l.getD j 0)) (k0 : Q (some (.int (nI (bk_ends 0 l).length))) h) : WP 56 0 [some (.ref q), none, none] [] h Q := by
  have L : ∀ r k, k + r = l.length → WP 56 4 [some (.ref q), some (.int (nI (bkp l k).length)), some (.int (nI k))] [] h Q := by
    intro r
    induction r with
    | zero =>
      intro k hk
      obtain rfl : k = l.length := by omega
      rw [← bkp_a]
      refine V56L  K ?_ ?_ ?_ ?_ ?_ ?_ ?_ ?_ ?_ ?_ <;> simp (disch := omega) only [oi_l, oi_n, z_nI, nIA, nIM, nIS, nIlt, nIle, nIeq, nIC, vpI, Nat.add_sub_cancel, Nat.not_le, Nat.not_lt, Nat.not_lt_zero, Nat.le_refl, not_true_eq_false, not_false_eq_true, false_imp_iff, true_imp_iff, forall_const, implies_true, Nat.reduceEqDiff, Nat.reduceLeDiff, Nat.reduceLT, and_self, Nat.reduceLeDiff, t, hN] <;> first | omega | exact k0
    | succ r ih =>
      intro k hk
      have I' := ih (k + 1) (by omega)
      have bb := bkp_b l k
      have fk := f k (by omega)
      rw [bkp] at I'
      by_cases last : l.length ≤ k + 1
      · rw [if_pos (Or.inl last), List.length_append] at I'
        refine V56L  K ?_ ?_ ?_ ?_ ?_ ?_ ?_ ?_ ?_ ?_ <;> simp (disch := omega) only [oi_l, oi_n, z_nI, nIA, nIM, nIS, nIlt, nIle, nIeq, nIC, vpI, Nat.add_sub_cancel, Nat.not_le, Nat.not_lt, Nat.not_lt_zero, Nat.le_refl, not_true_eq_false, not_false_eq_true, false_imp_iff, true_imp_iff, forall_const, implies_true, Nat.reduceEqDiff, Nat.reduceLeDiff, Nat.reduceLT, and_self, Nat.reduceLeDiff, t, hN, eq_true last, show ¬ l.length ≤ k by omega] <;> first | omega | exact I'
      · have fk1 := f (k + 1) (by omega)
        have a8 := h8 k
        have b8 := h8 (k + 1)
        by_cases same : l.getD k 0 = l.getD (k + 1) 0
        · rw [if_neg (by rw [eb]; omega)] at I'
          refine V56L  K ?_ ?_ ?_ ?_ ?_ ?_ ?_ ?_ ?_ ?_ <;> simp (disch := omega) only [oi_l, oi_n, z_nI, nIA, nIM, nIS, nIlt, nIle, nIeq, nIC, vpI, Nat.add_sub_cancel, Nat.not_le, Nat.not_lt, Nat.not_lt_zero, Nat.le_refl, not_true_eq_false, not_false_eq_true, false_imp_iff, true_imp_iff, forall_const, implies_true, Nat.reduceEqDiff, Nat.reduceLeDiff, Nat.reduceLT, and_self, Nat.reduceLeDiff, t, hN, last, fk, fk1, eq_true same, show ¬ l.length ≤ k by omega] <;> first | omega | exact I'
        · rw [if_pos (Or.inr same), List.length_append] at I'
          refine V56L  K ?_ ?_ ?_ ?_ ?_ ?_ ?_ ?_ ?_ ?_ <;> simp (disch := omega) only [oi_l, oi_n, z_nI, nIA, nIM, nIS, nIlt, nIle, nIeq, nIC, vpI, Nat.add_sub_cancel, Nat.not_le, Nat.not_lt, Nat.not_lt_zero, Nat.le_refl, not_true_eq_false, not_false_eq_true, false_imp_iff, true_imp_iff, forall_const, implies_true, Nat.reduceEqDiff, Nat.reduceLeDiff, Nat.reduceLT, and_self, Nat.reduceLeDiff, t, hN, last, fk, fk1, same, show ¬ l.length ≤ k by omega] <;> first | omega | exact I'
  exact V56 K (L _ 0 (Nat.zero_add _))
theorem c55 (K : SK h) (hq : q < zn h) (t : zT h q = 101) (hN : zN h q = l.length) (hl : l.length ≤ 400) (h8 : ∀ j, l.getD j 0 < 8) (f : ∀ j, j < l.length → zI h q j = nI (l.getD j 0))
    (k0 : ∀ g, Fr h g → zn g = zn h + 1 → zk g = zk h + (bk_ends 0 l).length → zT g (zn h) = 100 → zN g (zn h) = (bk_ends 0 l).length → (∀ j, j < (bk_ends 0 l).length → zI g (zn h) j = nI ((bk_ends 0 l).getD j 0)) → Q (some (.ref (zn h))) g) : WP 55 0 [some (.ref q), none, none, none] [] h Q := by
  have eb' := bkp_b l l.length
  rw [← bkp_a] at eb'
  have L : ∀ r k (g : pm_H), k + r = l.length → Fr h g → zn g = zn h + 1 → zk g = zk h + (bk_ends 0 l).length → zT g (zn h) = 100 → zN g (zn h) = (bk_ends 0 l).length → (∀ j, j < (bkp l k).length → zI g (zn h) j = nI ((bkp l k).getD j 0)) → WP 55 11 [some (.ref q), some (.ref (zn h)), some (.int (nI (bkp l k).length)), some (.int (nI k))] [] g Q := by
    intro r
    induction r with
    | zero =>
      intro k g hk fg gn gk gT gN gI
      obtain rfl : k = l.length := by omega
      obtain ⟨a1, a2, a3, a4⟩ := fg.1 q hq
      rw [t] at a1; rw [hN] at a2
      rw [← bkp_a] at gI
      have k' := k0 g fg gn gk gT gN gI
      refine V55L  (fg.SK K) ?_ ?_ ?_ ?_ ?_ ?_ ?_ ?_ ?_ ?_ ?_ ?_ ?_ ?_ ?_ ?_ ?_ ?_ <;> simp (disch := omega) only [oi_l, oi_n, z_nI, nIA, nIM, nIS, nIlt, nIle, nIeq, nIC, vpI, Nat.add_sub_cancel, Nat.not_le, Nat.not_lt, Nat.not_lt_zero, Nat.le_refl, not_true_eq_false, not_false_eq_true, false_imp_iff, true_imp_iff, forall_const, implies_true, Nat.reduceEqDiff, Nat.reduceLeDiff, Nat.reduceLT, and_self, a1, a2] <;> first | omega | exact k'
    | succ r ih =>
      intro k g hk fg gn gk gT gN gI
      obtain ⟨a1, a2, a3, a4⟩ := fg.1 q hq
      rw [t] at a1; rw [hN] at a2
      have bb := bkp_b l k
      have bm := bkp_m (l := l) (k := k + 1) (by omega)
      have fk := f k (by omega)
      rw [← a3] at fk
      have hlk : ¬ l.length ≤ k := by omega
      by_cases ee : eb l k
      · have e2 : bkp l (k + 1) = bkp l k ++ [k + 1] := by rw [bkp, if_pos ee]
        rw [e2, List.length_append] at bm
        have bm' : (bkp l k).length + 1 ≤ (bk_ends 0 l).length := bm
        have I' := ih (k + 1) (yI g (zn h) (bkp l k).length (nI (k + 1))) (by omega) (fg.I _ _ _ (Nat.le_refl _)) gn gk gT gN (fun j hj => by
          rw [e2] at hj ⊢
          rw [List.length_append] at hj
          have hj' : j < (bkp l k).length + 1 := hj
          simp only [zI_yI, va_upA, if_true]
          by_cases ej : j = (bkp l k).length
          · rw [if_pos ej, ej, gD_r (Nat.le_refl _), Nat.sub_self]; rfl
          · rw [if_neg ej, gD_l (by omega)]; exact gI j (by omega))
        rw [e2, List.length_append] at I'
        have I2 : WP 55 11 [some (.ref q), some (.ref (zn h)), some (.int (nI ((bkp l k).length + 1))), some (.int (nI (k + 1)))] [] (yI g (zn h) (bkp l k).length (nI (k + 1))) Q := I'
        by_cases last : l.length ≤ k + 1
        · refine V55L  (fg.SK K) ?_ ?_ ?_ ?_ ?_ ?_ ?_ ?_ ?_ ?_ ?_ ?_ ?_ ?_ ?_ ?_ ?_ ?_ <;> simp (disch := omega) only [oi_l, oi_n, z_nI, nIA, nIM, nIS, nIlt, nIle, nIeq, nIC, vpI, Nat.add_sub_cancel, Nat.not_le, Nat.not_lt, Nat.not_lt_zero, Nat.le_refl, not_true_eq_false, not_false_eq_true, false_imp_iff, true_imp_iff, forall_const, implies_true, Nat.reduceEqDiff, Nat.reduceLeDiff, Nat.reduceLT, and_self, a1, a2, gT, gN, eq_true last, hlk, show ¬ (bk_ends 0 l).length ≤ (bkp l k).length by omega] <;> first | omega | exact I2
        · have fk1 := f (k + 1) (by omega)
          rw [← a3] at fk1
          have a8 := h8 k
          have b8 := h8 (k + 1)
          have same : ¬ l.getD k 0 = l.getD (k + 1) 0 := by rcases ee with ee | ee; · exact absurd ee last
                                                            · exact ee
          refine V55L  (fg.SK K) ?_ ?_ ?_ ?_ ?_ ?_ ?_ ?_ ?_ ?_ ?_ ?_ ?_ ?_ ?_ ?_ ?_ ?_ <;> simp (disch := omega) only [oi_l, oi_n, z_nI, nIA, nIM, nIS, nIlt, nIle, nIeq, nIC, vpI, Nat.add_sub_cancel, Nat.not_le, Nat.not_lt, Nat.not_lt_zero, Nat.le_refl, not_true_eq_false, not_false_eq_true, false_imp_iff, true_imp_iff, forall_const, implies_true, Nat.reduceEqDiff, Nat.reduceLeDiff, Nat.reduceLT, and_self, a1, a2, gT, gN, last, fk, fk1, same, hlk, show ¬ (bk_ends 0 l).length ≤ (bkp l k).length by omega] <;> first | omega | exact I2
      · have e2 : bkp l (k + 1) = bkp l k := by rw [bkp, if_neg ee]
        have I' := ih (k + 1) g (by omega) fg gn gk gT gN (by rw [e2]; exact gI)
        rw [e2] at I'
        have last : ¬ l.length ≤ k + 1 := fun q => ee (Or.inl q)
        have fk1 := f (k + 1) (by omega)
        rw [← a3] at fk1
        have a8 := h8 k
        have b8 := h8 (k + 1)
        have same : l.getD k 0 = l.getD (k + 1) 0 := Decidable.not_not.mp (fun q => ee (Or.inr q))
        refine V55L  (fg.SK K) ?_ ?_ ?_ ?_ ?_ ?_ ?_ ?_ ?_ ?_ ?_ ?_ ?_ ?_ ?_ ?_ ?_ ?_ <;> simp (disch := omega) only [oi_l, oi_n, z_nI, nIA, nIM, nIS, nIlt, nIle, nIeq, nIC, vpI, Nat.add_sub_cancel, Nat.not_le, Nat.not_lt, Nat.not_lt_zero, Nat.le_refl, not_true_eq_false, not_false_eq_true, false_imp_iff, true_imp_iff, forall_const, implies_true, Nat.reduceEqDiff, Nat.reduceLeDiff, Nat.reduceLT, and_self, a1, a2, gT, gN, last, fk, fk1, eq_true same, hlk] <;> first | omega | exact I'
  refine B55_0 (c56 K t hN hl h8 f (B55_4 ?_ ?_))
  · rw [z_nI, nIlt (by omega) (by omega), nIC (by omega)]
    exact ⟨Nat.not_lt_zero _, by omega⟩
  · rw [nIC (by omega)]
    exact L _ 0 _ (Nat.zero_add _) (Fr.rf.N _ _ _) (zn_yN _ _ _ _) (zk_yN _ _ _ _) (by rw [zT_yN, if_pos rfl]) (by rw [zN_yN, if_pos rfl]) (fun j hj => absurd hj (Nat.not_lt_zero _))
theorem c179 {N m : Nat} (hq : q < zn h) (t : zT h q = 101) (hN : zN h q = N) (hN2 : N ≤ 1000) (hm : m ≤ N) (h8 : ∀ j, (zI h q j).toInt8.toInt32 = zI h q j)
    (k0 : ∀ g, Fr h g → zn g = zn h + 1 → zk g = zk h + m → zT g (zn h) = 101 → zN g (zn h) = m → (∀ j, j < m → zI g (zn h) j = zI h q j) → Q (some (.ref (zn h))) g) : WP 179 0 [some (.ref q), some (.int (nI m)), none] [] h Q := by
  refine B179_0 (by rw [t]; decide) (fun ne => ?_) (fun e => ?_)
  · have nq : q ≠ zn h := by omega
    have mlt : m < N := by
      have : ¬ m = N := fun e => ne (by rw [hN, e]; exact (oi_n N).symm)
      omega
    have tq : zT (yN h 101 m m) q = 101 := by rw [zT_yN, if_neg nq]; exact t
    have nq' : zN (yN h 101 m m) q = N := by rw [zN_yN, if_neg nq]; exact hN
    have iq : zI (yN h 101 m m) q = zI h q := by rw [zI_yN, if_neg nq]
    have ec : (nI m).toNatClampNeg = m := nIC (by omega)
    have cm : (if nI m < Int32.ofInt (N : Nat) then nI m else Int32.ofInt (N : Nat)) = nI m := by
      exact if_pos (by rw [oi_n, nIlt (by omega) (by omega)]; exact mlt)
    refine B179_14 ?_ ?_ ?_ ?_
    · rw [z_nI, nIlt (by omega) (by omega), ec]; exact ⟨Nat.not_lt_zero _, by omega⟩
    · rw [ec, tq]; decide
    · rw [ec, tq, nq', cm, iq, ec]
      refine ⟨Or.inr ⟨rfl, h8⟩, by rw [zT_yN, if_pos rfl], by decide, by decide, by rw [z_nI, nIlt (by omega) (by omega)]; exact Nat.not_lt_zero _, ?_, ?_⟩
      · show 0 + m ≤ N
        omega
      · rw [zN_yN, if_pos rfl]; show 0 + m ≤ m
        omega
    · rw [ec, nq', cm, iq, ec]
      refine k0 _ ((Fr.rf.N _ _ _).A _ _ (Nat.le_refl _)) (by rw [zn_yA, zn_yN]) (by rw [zk_yA, zk_yN]) (by rw [zT_yA, zT_yN, if_pos rfl]) (by rw [zN_yA, zN_yN, if_pos rfl]) (fun j hj => ?_)
      rw [zI_yA', if_pos rfl]
      show va_cpy _ _ 0 0 m j = _
      unfold va_cpy
      simp [hj]
  · have eN : m = N := by
      rw [hN, oi_n] at e
      exact (nIeq (by omega) (by omega)).mp e
    refine B179_6 ⟨t, h8⟩ (by rw [zT_yA, zT_yN, if_pos rfl]) (k0 _ ((Fr.rf.N _ _ _).A _ _ (Nat.le_refl _)) (by rw [zn_yA, zn_yN]) (by rw [zk_yA, zk_yN, hN, eN]) (by rw [zT_yA, zT_yN, if_pos rfl]) (by rw [zN_yA, zN_yN, if_pos rfl, hN, eN]) (fun j hj => by rw [zI_yA', if_pos rfl]))
/-- new Strip(..), behind new -/
theorem c54 {v : Nat} (K : SK h) (hl : l.length ≤ 400) (h8 : ∀ j, l.getD j 0 < 8) (w3 : ∀ j, j < l.length → zI h 5 j = nI (l.getD j 0)) (w5 : C5 h)
    (k0 : ∀ g, Fr h g → zn g = zn h + 3 → zk g ≤ zk h + 803 → atS g (zn h) (v, l) → Q none g) : WP 54 0 [some (.ref (zn h)), some (.int (nI v)), some (.ref 5), some (.int (nI l.length))] [] (yN h 9 0 3) Q := by
  have z76 := K.2.2.2
  have f1 : Fr h (yI (yN h 9 0 3) (zn h) 0 (nI v)) := (Fr.rf.N _ _ _).I _ _ _ (Nat.le_refl _)
  obtain ⟨a1, a2, a3, a4⟩ := f1.1 5 (by omega)
  obtain ⟨h1, eh1⟩ : ∃ h1, h1 = yI (yN h 9 0 3) (zn h) 0 (nI v) := ⟨_, rfl⟩
  have n1 : zn h1 = zn h + 1 := by rw [eh1, zn_yI, zn_yN]
  have k1 : zk h1 = zk h + 3 := by rw [eh1, zk_yI, zk_yN]
  have t1 : zT h1 (zn h) = 9 := by rw [eh1, zT_yI, zT_yN, if_pos rfl]
  have v1 : zI h1 (zn h) 0 = nI v := by rw [eh1, zI_yI, if_pos rfl, va_upA, if_pos rfl]
  refine B54_0 (by rw [zT_yN, if_pos rfl]) ?_
  rw [← eh1] at a1 a2 a3 a4 f1 ⊢
  refine c179 (N := 400) (by omega) (by rw [a1]; exact K.T 5) (by rw [a2]; exact K.N 5) (by decide) hl (fun j => by rw [a3]; exact b8z w5 j) (fun g2 f2 n2 k2 T2 N2 I2 => ?_)
  obtain ⟨b1, b2, b3, b4⟩ := f2.1 (zn h) (by omega)
  refine B54_15 (by rw [b1]; exact t1) ?_
  have f3 : Fr h (yR g2 (zn h) 1 (some (zn h1))) := (f1.tr f2).R _ _ _ (Nat.le_refl _)
  obtain ⟨g3, eg3⟩ : ∃ g3, g3 = yR g2 (zn h) 1 (some (zn h1)) := ⟨_, rfl⟩
  have ne1 : zn h1 ≠ zn h := by omega
  have t3 : zT g3 (zn h) = 9 := by rw [eg3, zT_yR, b1]; exact t1
  have r3 : zR g3 (zn h) 1 = some (zn h1) := by rw [eg3, zR_yR, if_pos rfl, va_upA, if_pos rfl]
  have n3 : zn g3 = zn h + 2 := by rw [eg3, zn_yR]; omega
  have k3 : zk g3 = zk h + 3 + l.length := by rw [eg3, zk_yR]; omega
  have T3 : zT g3 (zn h1) = 101 := by rw [eg3, zT_yR]; exact T2
  have N3 : zN g3 (zn h1) = l.length := by rw [eg3, zN_yR]; exact N2
  have I3 : ∀ j, j < l.length → zI g3 (zn h1) j = nI (l.getD j 0) := fun j hj => by rw [eg3, zI_yR, I2 j hj, a3]; exact w3 j hj
  have V3 : zI g3 (zn h) 0 = nI v := by rw [eg3, zI_yR, b3]; exact v1
  rw [← eg3] at f3 ⊢
  refine B54_18 t3 r3 ?_
  refine c55 (f3.SK K) (by omega) T3 N3 hl h8 I3 (fun g4 f4 n4 k4 T4 N4 I4 => ?_)
  obtain ⟨c1, c2, c3, c4⟩ := f4.1 (zn h) (by omega)
  obtain ⟨d1, d2, d3, d4⟩ := f4.1 (zn h1) (by omega)
  have eb' := bkp_b l l.length
  rw [← bkp_a] at eb'
  have f5 : Fr h (yR g4 (zn h) 2 (some (zn g3))) := (f3.tr f4).R _ _ _ (Nat.le_refl _)
  refine B54_26 (by rw [c1]; exact t3) (B54_29 (k0 _ f5 (by rw [zn_yR]; omega) (by rw [zk_yR]; omega) ?_))
  have ne3 : zn g3 ≠ zn h := by omega
  refine ⟨⟨Or.inr (Or.inr (Or.inr z76)), by rw [zn_yR]; omega⟩, by rw [zT_yR, c1]; exact t3, by rw [zI_yR, c3]; exact V3, zn h1, zn g3, ?_, ⟨Or.inr (Or.inr (Or.inr (by omega))), by rw [zn_yR]; omega⟩, by rw [zT_yR, d1]; exact T3, by rw [zN_yR, d2]; exact N3, fun k hk => by rw [zI_yR, d3]; exact I3 k hk, ?_, ⟨Or.inr (Or.inr (Or.inr (by omega))), by rw [zn_yR]; omega⟩, by rw [zT_yR]; exact T4, by rw [zN_yR]; exact N4, fun k hk => by rw [zI_yR]; exact I4 k hk⟩
  · rw [zR_yR, if_pos rfl, va_upA, if_neg (by decide), c4]; exact r3
  · rw [zR_yR, if_pos rfl, va_upA, if_pos rfl]
end NEWS

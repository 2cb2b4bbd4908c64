/-! reading, of the model -/
def MF (L : List Nat) (h g : pm_H) : Prop := (∀ a, a ∉ L → a ≠ 35 → zI g a = zI h a) ∧ (∀ k, (k < 7 ∨ 13 < k) → k ≠ 17 → k ≠ 17 → zI g 35 k = zI h 35 k) ∧ (∀ a, zT g a = zT h a) ∧ (∀ a, zN g a = zN h a) ∧ (∀ a, zR g a = zR h a) ∧ zn g = zn h ∧ zk g = zk h
theorem MF.rf {L : List Nat} {h : pm_H} : MF L h h := ⟨fun _ _ _ => rfl, fun _ _ _ _ => rfl, fun _ => rfl, fun _ => rfl, fun _ => rfl, rfl, rfl⟩
theorem MF.tr {L : List Nat} {h g f : pm_H} (p : MF L h g) (q : MF L g f) : MF L h f := ⟨fun a h1 h2 => (q.1 a h1 h2).trans (p.1 a h1 h2), fun k h1 h2 h3 => (q.2.1 k h1 h2 h3).trans (p.2.1 k h1 h2 h3), fun a => (q.2.2.1 a).trans (p.2.2.1 a), fun a => (q.2.2.2.1 a).trans (p.2.2.2.1 a), fun a => (q.2.2.2.2.1 a).trans (p.2.2.2.2.1 a), q.2.2.2.2.2.1.trans p.2.2.2.2.2.1, q.2.2.2.2.2.2.trans p.2.2.2.2.2.2⟩
theorem MF.T {L : List Nat} {h g : pm_H} (t : TmS h g) : MF L h g := ⟨fun a _ h2 => t.1 a h2, fun k h1 _ _ => t.2.1 k (by omega), t.2.2⟩
theorem MF.F {L : List Nat} {h g : pm_H} (c : MF L h g) (i : Nat) (v : Int32) (hi : (7 ≤ i ∧ i ≤ 13) ∨ i = 17) : MF L h (yI g 35 i v) := ⟨fun a h1 h2 => (zI_yAn g _ h2).trans (c.1 a h1 h2), fun k h1 h2 h3 => by
  rw [zI_yI, if_pos rfl, va_upA, if_neg (by omega)]; exact c.2.1 k h1 h2 h3, c.2.2⟩
theorem MF.I {L : List Nat} {h g : pm_H} (c : MF L h g) (a i : Nat) (v : Int32) (ha : a ∈ L) (h35 : a ≠ 35) : MF L h (yI g a i v) := ⟨fun b h1 h2 => (zI_yAn g _ (fun e => h1 (by rw [e]; exact ha))).trans (c.1 b h1 h2), fun k h1 h2 h3 => by
  rw [zI_yI, if_neg (Ne.symm h35)]; exact c.2.1 k h1 h2 h3, c.2.2⟩
theorem MF.SK {L : List Nat} {h g : pm_H} (k : MF L h g) (s : SK h) : SK g :=
  ⟨fun a ha => (k.2.2.1 a).trans (s.1 a ha), fun a ha => (k.2.2.2.1 a).trans (s.2.1 a ha), fun a i hi => (congrFun (k.2.2.2.2.1 a) i).trans (s.2.2.1 a i hi), by rw [k.2.2.2.2.2.1]; exact s.2.2.2⟩
theorem MT.keep {h g : pm_H} {ch : Nat → Nat} {n i : Nat} (m : MT h ch n i) (e : ∀ k, 9 ≤ k → k ≤ 13 → zI g 35 k = zI h 35 k) (eJ : zJ g 35 = zJ h 35) : MT g ch n i := by
  unfold MT
  rw [e 9 (by decide) (by decide), e 10 (by decide) (by decide), e 11 (by decide) (by decide), e 12 (by decide) (by decide), e 13 (by decide) (by decide), eJ]
  exact m
theorem V136 {h : pm_H} {Q : Option Value → pm_H → Prop} {x1 : Int32} {x2 : Int32} (S : SK h) (k2 : ((zI h 35 7) ≤ 0) → Q none (yI (yI h 35 7 x1) 35 8 x2)) (k3 : (¬ (zI h 35 7) ≤ 0) → Q none h) : WP 136 0 [some (.ref 35), some (.int x1), some (.int x2)] [] h Q :=
  B136_0 (S.T 35) (fun c1 => B136_8 (S.T 35) (k2 c1)) (fun c1 => B136_7 (k3 c1))
theorem V137 {h : pm_H} {Q : Option Value → pm_H → Prop}  (S : SK h) (k3 : (¬ (zI h 35 9) = (Int32.ofInt 4)) → ((zI h 35 7) ≤ 0) → Q none (yI (yI h 35 7 (Int32.ofInt 2)) 35 8 (zI h 35 10))) (k4 : (¬ (zI h 35 9) = (Int32.ofInt 4)) → (¬ (zI h 35 7) ≤ 0) → Q none h) (k6 : ((zI h 35 9) = (Int32.ofInt 4)) → ((zI h 35 7) ≤ 0) → Q none (yI (yI h 35 7 (Int32.ofInt 1)) 35 8 (zI h 35 10))) (k7 : ((zI h 35 9) = (Int32.ofInt 4)) → (¬ (zI h 35 7) ≤ 0) → Q none h) : WP 137 0 [some (.ref 35)] [] h Q :=
  B137_0 (S.T 35) (fun c1 => B137_13 (B137_14 (S.T 35) (S.T 35) (B136_0 (S.T 35) (fun c2 => B136_8 (S.T 35) (B137_21 (k3 c1 c2))) (fun c2 => B136_7 (B137_21 (k4 c1 c2)))))) (fun c1 => B137_9 (B137_14 (S.T 35) (S.T 35) (B136_0 (S.T 35) (fun c5 => B136_8 (S.T 35) (B137_21 (k6 c1 c5))) (fun c5 => B136_7 (B137_21 (k7 c1 c5))))))
theorem V138 {h : pm_H} {Q : Option Value → pm_H → Prop} {c : Nat} (S : SK h) (k1 : WP 135 0 [some (.ref 35), some (.int (nI c))] [] h (fun v1 h1 => WP 138 5 [some (.ref 35), some (.int (nI c))] (v1.toList ++ []) h1 Q)) : WP 138 0 [some (.ref 35), some (.int (nI c))] [] h Q :=
  B138_0 (S.T 35) k1
theorem V138r {h : pm_H} {Q : Option Value → pm_H → Prop} {b : Int32} {c : Nat} (S : SK h) (k2 : (¬ b = 0) → WP 128 0 [some (.ref 35), none] [] h (fun v1 h1 => WP 138 19 [some (.ref 35), some (.int (nI c))] (v1.toList ++ []) h1 Q)) (k3 : (b = 0) → WP 137 0 [some (.ref 35)] [] h (fun v1 h1 => WP 138 12 [some (.ref 35), some (.int (nI c))] (v1.toList ++ []) h1 Q)) : WP 138 5 [some (.ref 35), some (.int (nI c))] [.int b] h Q :=
  B138_5 (fun c1 => B138_15 (S.T 35) (k2 c1)) (fun c1 => B138_8 (S.T 35) (k3 c1))
theorem V138s {h : pm_H} {Q : Option Value → pm_H → Prop} {c : Nat} (S : SK h) (k1 : Q none h) : WP 138 12 [some (.ref 35), some (.int (nI c))] [] h Q :=
  B138_12 (B138_19 k1)
theorem V138t {h : pm_H} {Q : Option Value → pm_H → Prop} {c : Nat} (S : SK h) (k1 : Q none h) : WP 138 19 [some (.ref 35), some (.int (nI c))] [] h Q :=
  B138_19 k1
theorem V139 {h : pm_H} {Q : Option Value → pm_H → Prop} {d3 : Option Value} {lo : Nat} {hi : Nat} (S : SK h) (k4 : ((zI h 35 9) = (Int32.ofInt 2)) → ((zI h 35 12) < (nI lo)) → ((zI h 35 7) ≤ 0) → WP 139 38 [some (.ref 35), some (.int (nI lo)), some (.int (nI hi)), some (.int (zI h 35 12))] [] (yI (yI h 35 7 (Int32.ofInt 4)) 35 8 (zI h 35 10)) Q) (k5 : ((zI h 35 9) = (Int32.ofInt 2)) → ((zI h 35 12) < (nI lo)) → (¬ (zI h 35 7) ≤ 0) → WP 139 38 [some (.ref 35), some (.int (nI lo)), some (.int (nI hi)), some (.int (zI h 35 12))] [] h Q) (k7 : ((zI h 35 9) = (Int32.ofInt 2)) → (¬ (zI h 35 12) < (nI lo)) → ((zI h 35 12) ≤ (nI hi)) → WP 139 38 [some (.ref 35), some (.int (nI lo)), some (.int (nI hi)), some (.int (zI h 35 12))] [] h Q) (k9 : ((zI h 35 9) = (Int32.ofInt 2)) → (¬ (zI h 35 12) < (nI lo)) → (¬ (zI h 35 12) ≤ (nI hi)) → ((zI h 35 7) ≤ 0) → WP 139 38 [some (.ref 35), some (.int (nI lo)), some (.int (nI hi)), some (.int (zI h 35 12))] [] (yI (yI h 35 7 (Int32.ofInt 4)) 35 8 (zI h 35 10)) Q) (k10 : ((zI h 35 9) = (Int32.ofInt 2)) → (¬ (zI h 35 12) < (nI lo)) → (¬ (zI h 35 12) ≤ (nI hi)) → (¬ (zI h 35 7) ≤ 0) → WP 139 38 [some (.ref 35), some (.int (nI lo)), some (.int (nI hi)), some (.int (zI h 35 12))] [] h Q) (k11 : (¬ (zI h 35 9) = (Int32.ofInt 2)) → WP 137 0 [some (.ref 35)] [] h (fun v1 h1 => WP 139 12 [some (.ref 35), some (.int (nI lo)), some (.int (nI hi)), d3] (v1.toList ++ []) h1 Q)) : WP 139 0 [some (.ref 35), some (.int (nI lo)), some (.int (nI hi)), d3] [] h Q :=
  B139_0 (S.T 35) (fun c1 => B139_14 (S.T 35) (fun c2 => B139_29 (S.T 35) (B136_0 (S.T 35) (fun c3 => B136_8 (S.T 35) (k4 c1 c2 c3)) (fun c3 => B136_7 (k5 c1 c2 c3)))) (fun c2 => B139_24 (fun c6 => k7 c1 c2 c6) (fun c6 => B139_29 (S.T 35) (B136_0 (S.T 35) (fun c8 => B136_8 (S.T 35) (k9 c1 c2 c6 c8)) (fun c8 => B136_7 (k10 c1 c2 c6 c8)))))) (fun c1 => B139_8 (S.T 35) (k11 c1))
theorem V139w {h : pm_H} {Q : Option Value → pm_H → Prop} {d3 : Option Value} {lo : Nat} {hi : Nat} (S : SK h) (k1 : Q (some (.int (nI lo))) h) : WP 139 12 [some (.ref 35), some (.int (nI lo)), some (.int (nI hi)), d3] [] h Q :=
  B139_12 k1
theorem V139r {h : pm_H} {Q : Option Value → pm_H → Prop} {lo : Nat} {hi : Nat} {v : Nat} (S : SK h) (k2 : (¬ (zI h 35 7) = 0) → WP 139 49 [some (.ref 35), some (.int (nI lo)), some (.int (nI hi)), some (.int (nI v))] [] h Q) (k3 : ((zI h 35 7) = 0) → WP 128 0 [some (.ref 35), none] [] h (fun v1 h1 => WP 139 49 [some (.ref 35), some (.int (nI lo)), some (.int (nI hi)), some (.int (nI v))] (v1.toList ++ []) h1 Q)) : WP 139 38 [some (.ref 35), some (.int (nI lo)), some (.int (nI hi)), some (.int (nI v))] [] h Q :=
  B139_38 (S.T 35) (fun c1 => k2 c1) (fun c1 => B139_45 (S.T 35) (k3 c1))
theorem V139s {h : pm_H} {Q : Option Value → pm_H → Prop} {lo : Nat} {hi : Nat} {v : Nat} (S : SK h) (k2 : (¬ (zI h 35 7) = 0) → Q (some (.int (nI lo))) h) (k3 : ((zI h 35 7) = 0) → Q (some (.int (nI v))) h) : WP 139 49 [some (.ref 35), some (.int (nI lo)), some (.int (nI hi)), some (.int (nI v))] [] h Q :=
  B139_49 (S.T 35) (fun c1 => B139_60 (B139_61 (k2 c1))) (fun c1 => B139_56 (B139_61 (k3 c1)))
section MRD
variable {h : pm_H} {Q : Option Value → pm_H → Prop} {ch : Nat → Nat} {n i : Nat}
theorem c137 (S : SK h) (m : MT h ch n i) (e7 : zI h 35 7 = nI 0) (k0 : ∀ g, MF [] h g → zJ g = zJ h → (∀ k, 9 ≤ k → zI g 35 k = zI h 35 k) → zI g 35 7 = nI (cs1 ch n i) → zI g 35 8 = nI (tpl ch n i) → Q none g) : WP 137 0 [some (.ref 35)] [] h Q := by
  obtain ⟨m9, m10, -⟩ := m
  have t4 := tk_le (ch := ch) (n := n) (i := i)
  have F : ∀ k, k = cs1 ch n i → Q none (yI (yI h 35 7 (nI k)) 35 8 (nI (tpl ch n i))) := fun k ek => k0 _ ((MF.rf.F 7 _ (by omega)).F 8 _ (by omega)) rfl (fun k hk => by simp only [zI_yI, va_upA, if_true]; rw [if_neg (by omega), if_neg (by omega)]) (by rw [← ek]; simp [zI_yI, va_upA]) (by simp [zI_yI, va_upA])
  by_cases k4 : tkd ch n i = 4
  · have F' := F 1 (by unfold cs1; rw [if_pos k4])
    refine V137  S ?_ ?_ ?_ ?_ <;> simp (disch := omega) only [oi_l, oi_n, z_nI, nIA, nIM, nIS, nIlt, nIle, nIeq, nIC, vpI, Nat.add_sub_cancel, Nat.not_le, Nat.not_lt, Nat.not_lt_zero, Nat.le_refl, not_true_eq_false, not_false_eq_true, false_imp_iff, true_imp_iff, forall_const, implies_true, Nat.reduceEqDiff, Nat.reduceLeDiff, Nat.reduceLT, m9, m10, e7, eq_true k4] <;> first | omega | exact F'
  · have F' := F 2 (by unfold cs1; rw [if_neg k4])
    refine V137  S ?_ ?_ ?_ ?_ <;> simp (disch := omega) only [oi_l, oi_n, z_nI, nIA, nIM, nIS, nIlt, nIle, nIeq, nIC, vpI, Nat.add_sub_cancel, Nat.not_le, Nat.not_lt, Nat.not_lt_zero, Nat.le_refl, not_true_eq_false, not_false_eq_true, false_imp_iff, true_imp_iff, forall_const, implies_true, Nat.reduceEqDiff, Nat.reduceLeDiff, Nat.reduceLT, m9, m10, e7, k4] <;> first | omega | exact F'
theorem c138 {c : Nat} (hc : c < 256) (S : SK h) (hn : n ≤ 800) (hi' : i ≤ n) (e4 : zI h 35 4 = nI n) (m : MT h ch n i) (e7 : zI h 35 7 = nI 0) (hch : CH h 36 ch n)
    (kb : ¬ (tkd ch n i = 3 ∧ tvl ch n i = c) → ∀ g, MF [] h g → zI g 35 7 = nI (cs1 ch n i) → zI g 35 8 = nI (tpl ch n i) → Q none g)
    (k0 : tkd ch n i = 3 ∧ tvl ch n i = c → ∀ g, TmS h g → MT g ch n (tnx ch n i) → Q none g) : WP 138 0 [some (.ref 35), some (.int (nI c))] [] h Q := by
  have nb := tnx_b (ch := ch) hi'
  refine V138 S (c135 hc S m ?_)
  by_cases q : tkd ch n i = 3 ∧ tvl ch n i = c
  · rw [if_pos q]
    have C' : WP 128 0 [some (.ref 35), none] [] h (fun v1 h1 => WP 138 19 [some (.ref 35), some (.int (nI c))] (v1.toList ++ []) h1 Q) := c128 S hn nb.2.1 e4 m.2.2.1 hch (fun g tg a9 a10 a11 a12 a13 => V138t (tg.SK S) (k0 q g tg ⟨a9, a10, a11, a12, a13⟩))
    refine V138r  S ?_ ?_ <;> simp (disch := omega) only [oi_l, oi_n, z_nI, nIA, nIM, nIS, nIlt, nIle, nIeq, nIC, vpI, Nat.add_sub_cancel, Nat.not_le, Nat.not_lt, Nat.not_lt_zero, Nat.le_refl, not_true_eq_false, not_false_eq_true, false_imp_iff, true_imp_iff, forall_const, implies_true, Nat.reduceEqDiff, Nat.reduceLeDiff, Nat.reduceLT] <;> first | omega | exact C'
  · rw [if_neg q]
    have C' : WP 137 0 [some (.ref 35)] [] h (fun v1 h1 => WP 138 12 [some (.ref 35), some (.int (nI c))] (v1.toList ++ []) h1 Q) := c137 S m e7 (fun g mg _ _ b7 b8 => V138s (mg.SK S) (kb q g mg b7 b8))
    refine V138r  S ?_ ?_ <;> simp (disch := omega) only [oi_l, oi_n, z_nI, nIA, nIM, nIS, nIlt, nIle, nIeq, nIC, vpI, Nat.add_sub_cancel, Nat.not_le, Nat.not_lt, Nat.not_lt_zero, Nat.le_refl, not_true_eq_false, not_false_eq_true, false_imp_iff, true_imp_iff, forall_const, implies_true, Nat.reduceEqDiff, Nat.reduceLeDiff, Nat.reduceLT] <;> first | omega | exact C'
theorem c139 {lo hi : Nat} (S : SK h) (hn : n ≤ 800) (hi' : i ≤ n) (hlo : lo ≤ 10000) (hhi : hi ≤ 10000) (e4 : zI h 35 4 = nI n) (m : MT h ch n i) (e7 : zI h 35 7 = nI 0) (hch : CH h 36 ch n)
    (kb : ¬ tkd ch n i = 2 → ∀ g v, MF [] h g → zI g 35 7 = nI (cs1 ch n i) → zI g 35 8 = nI (tpl ch n i) → Q (some (.int v)) g)
    (k4 : tkd ch n i = 2 → tvl ch n i < lo ∨ hi < tvl ch n i → ∀ g v, MF [] h g → zI g 35 7 = nI 4 → zI g 35 8 = nI (tpl ch n i) → Q (some (.int v)) g)
    (k0 : tkd ch n i = 2 → lo ≤ tvl ch n i → tvl ch n i ≤ hi → ∀ g, TmS h g → MT g ch n (tnx ch n i) → Q (some (.int (nI (tvl ch n i)))) g) : WP 139 0 [some (.ref 35), some (.int (nI lo)), some (.int (nI hi)), none] [] h Q := by
  have nb := tnx_b (ch := ch) hi'
  have t4 := tk_le (ch := ch) (n := n) (i := i)
  have m9 := m.1
  have m10 := m.2.1
  by_cases k2 : tkd ch n i = 2
  · have m12 := m.2.2.2.1 (Or.inl k2)
    have vb := tk2 hn k2
    rw [k2] at m9
    by_cases bad : tvl ch n i < lo ∨ hi < tvl ch n i
    · have B' : WP 139 38 [some (.ref 35), some (.int (nI lo)), some (.int (nI hi)), some (.int (nI (tvl ch n i)))] [] (yI (yI h 35 7 (nI 4)) 35 8 (nI (tpl ch n i))) Q := by
        have mg : MF [] h (yI (yI h 35 7 (nI 4)) 35 8 (nI (tpl ch n i))) := (MF.rf.F 7 _ (by omega)).F 8 _ (by omega)
        have k' := k4 k2 bad (yI (yI h 35 7 (nI 4)) 35 8 (nI (tpl ch n i))) (nI lo) mg (by simp [zI_yI, va_upA]) (by simp [zI_yI, va_upA])
        have b7 : zI (yI (yI h 35 7 (nI 4)) 35 8 (nI (tpl ch n i))) 35 7 = nI 4 := by simp [zI_yI, va_upA]
        refine V139r  (mg.SK S) ?_ ?_ <;> simp (disch := omega) only [oi_l, oi_n, z_nI, nIA, nIM, nIS, nIlt, nIle, nIeq, nIC, vpI, Nat.add_sub_cancel, Nat.not_le, Nat.not_lt, Nat.not_lt_zero, Nat.le_refl, not_true_eq_false, not_false_eq_true, false_imp_iff, true_imp_iff, forall_const, implies_true, Nat.reduceEqDiff, Nat.reduceLeDiff, Nat.reduceLT, b7] <;> (try omega)
        refine V139s  (mg.SK S) ?_ ?_ <;> simp (disch := omega) only [oi_l, oi_n, z_nI, nIA, nIM, nIS, nIlt, nIle, nIeq, nIC, vpI, Nat.add_sub_cancel, Nat.not_le, Nat.not_lt, Nat.not_lt_zero, Nat.le_refl, not_true_eq_false, not_false_eq_true, false_imp_iff, true_imp_iff, forall_const, implies_true, Nat.reduceEqDiff, Nat.reduceLeDiff, Nat.reduceLT, b7] <;> first | omega | exact k'
      by_cases b1 : tvl ch n i < lo
      · refine V139  S ?_ ?_ ?_ ?_ ?_ ?_ <;> simp (disch := omega) only [oi_l, oi_n, z_nI, nIA, nIM, nIS, nIlt, nIle, nIeq, nIC, vpI, Nat.add_sub_cancel, Nat.not_le, Nat.not_lt, Nat.not_lt_zero, Nat.le_refl, not_true_eq_false, not_false_eq_true, false_imp_iff, true_imp_iff, forall_const, implies_true, Nat.reduceEqDiff, Nat.reduceLeDiff, Nat.reduceLT, m9, m10, m12, e7, b1] <;> first | omega | exact B'
      · refine V139  S ?_ ?_ ?_ ?_ ?_ ?_ <;> simp (disch := omega) only [oi_l, oi_n, z_nI, nIA, nIM, nIS, nIlt, nIle, nIeq, nIC, vpI, Nat.add_sub_cancel, Nat.not_le, Nat.not_lt, Nat.not_lt_zero, Nat.le_refl, not_true_eq_false, not_false_eq_true, false_imp_iff, true_imp_iff, forall_const, implies_true, Nat.reduceEqDiff, Nat.reduceLeDiff, Nat.reduceLT, m9, m10, m12, e7, b1, show ¬ tvl ch n i ≤ hi by omega] <;> first | omega | exact B'
    · have B' : WP 139 38 [some (.ref 35), some (.int (nI lo)), some (.int (nI hi)), some (.int (nI (tvl ch n i)))] [] h Q := by
        have C' : WP 128 0 [some (.ref 35), none] [] h (fun v1 h1 => WP 139 49 [some (.ref 35), some (.int (nI lo)), some (.int (nI hi)), some (.int (nI (tvl ch n i)))] (v1.toList ++ []) h1 Q) := c128 S hn nb.2.1 e4 m.2.2.1 hch (fun g tg a9 a10 a11 a12 a13 => by
          have k' := k0 k2 (by omega) (by omega) g tg ⟨a9, a10, a11, a12, a13⟩
          have b7 : zI g 35 7 = nI 0 := by rw [tg.2.1 7 (by omega)]; exact e7
          refine V139s  (tg.SK S) ?_ ?_ <;> simp (disch := omega) only [oi_l, oi_n, z_nI, nIA, nIM, nIS, nIlt, nIle, nIeq, nIC, vpI, Nat.add_sub_cancel, Nat.not_le, Nat.not_lt, Nat.not_lt_zero, Nat.le_refl, not_true_eq_false, not_false_eq_true, false_imp_iff, true_imp_iff, forall_const, implies_true, Nat.reduceEqDiff, Nat.reduceLeDiff, Nat.reduceLT, b7] <;> first | omega | exact k')
        refine V139r  S ?_ ?_ <;> simp (disch := omega) only [oi_l, oi_n, z_nI, nIA, nIM, nIS, nIlt, nIle, nIeq, nIC, vpI, Nat.add_sub_cancel, Nat.not_le, Nat.not_lt, Nat.not_lt_zero, Nat.le_refl, not_true_eq_false, not_false_eq_true, false_imp_iff, true_imp_iff, forall_const, implies_true, Nat.reduceEqDiff, Nat.reduceLeDiff, Nat.reduceLT, e7] <;> first | omega | exact C'
      refine V139  S ?_ ?_ ?_ ?_ ?_ ?_ <;> simp (disch := omega) only [oi_l, oi_n, z_nI, nIA, nIM, nIS, nIlt, nIle, nIeq, nIC, vpI, Nat.add_sub_cancel, Nat.not_le, Nat.not_lt, Nat.not_lt_zero, Nat.le_refl, not_true_eq_false, not_false_eq_true, false_imp_iff, true_imp_iff, forall_const, implies_true, Nat.reduceEqDiff, Nat.reduceLeDiff, Nat.reduceLT, m9, m10, m12, e7, show ¬ tvl ch n i < lo by omega, show tvl ch n i ≤ hi by omega] <;> first | omega | exact B'
  · have C' : WP 137 0 [some (.ref 35)] [] h (fun v1 h1 => WP 139 12 [some (.ref 35), some (.int (nI lo)), some (.int (nI hi)), none] (v1.toList ++ []) h1 Q) := c137 S m e7 (fun g mg _ _ b7 b8 => V139w (mg.SK S) (kb k2 g _ mg b7 b8))
    refine V139  S ?_ ?_ ?_ ?_ ?_ ?_ <;> simp (disch := omega) only [oi_l, oi_n, z_nI, nIA, nIM, nIS, nIlt, nIle, nIeq, nIC, vpI, Nat.add_sub_cancel, Nat.not_le, Nat.not_lt, Nat.not_lt_zero, Nat.le_refl, not_true_eq_false, not_false_eq_true, false_imp_iff, true_imp_iff, forall_const, implies_true, Nat.reduceEqDiff, Nat.reduceLeDiff, Nat.reduceLT, m9, k2] <;> first | omega | exact C'
end MRD

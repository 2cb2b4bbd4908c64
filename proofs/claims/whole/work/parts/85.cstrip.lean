/-! readStrip of the class -/
theorem V17 {h : pm_H} {Q : Option Value → pm_H → Prop} {b : Nat} {d2 : Option Value} {v : Nat} (S : SK h) (k1 : WP 17 2 [some (.ref b), some (.int (nI v)), some (.int (Int32.ofInt 0))] [] h Q) : WP 17 0 [some (.ref b), some (.int (nI v)), d2] [] h Q :=
  B17_0 (k1)
theorem V17L {h : pm_H} {Q : Option Value → pm_H → Prop} {b : Nat} {v : Nat} {k : Nat} {b5 : Nat} {b8 : Nat} (S : SK h) (t1 : zT h b = 2) (k3 : ((zI h b 1) ≤ (nI k)) → Q (some (.int (Int32.ofInt (-1)))) h) (t4 : (¬ (zI h b 1) ≤ (nI k)) → zT h b = 2) (e6 : (¬ (zI h b 1) ≤ (nI k)) → zR h b 0 = some b5) (g7 : (¬ (zI h b 1) ≤ (nI k)) → (zT h b5 = 103 ∨ zT h b5 = 104 ∨ zT h b5 = 105) ∧ vp_in (nI k) (zN h b5)) (e9 : (¬ (zI h b 1) ≤ (nI k)) → zR h b5 ((nI k)).toNatClampNeg = some b8) (t10 : (¬ (zI h b 1) ≤ (nI k)) → zT h b8 = 9) (k12 : (¬ (zI h b 1) ≤ (nI k)) → (¬ (zI h b8 0) = (nI v)) → WP 17 2 [some (.ref b), some (.int (nI v)), some (.int ((nI k) + (Int32.ofInt 1)))] [] h Q) (k13 : (¬ (zI h b 1) ≤ (nI k)) → ((zI h b8 0) = (nI v)) → Q (some (.int (nI k))) h) : WP 17 2 [some (.ref b), some (.int (nI v)), some (.int (nI k))] [] h Q :=
  B17_2 t1 (fun c2 => B17_31 (k3 c2)) (fun c2 => B17_10 (t4 c2) (e6 c2) (g7 c2) (e9 c2) (t10 c2) (fun c11 => B17_25 (k12 c2 c11)) (fun c11 => B17_23 (k13 c2 c11)))
theorem V18 {h : pm_H} {Q : Option Value → pm_H → Prop} {b : Nat} {d2 : Option Value} {v : Nat} (S : SK h) (k1 : WP 18 2 [some (.ref b), some (.int (nI v)), some (.int (Int32.ofInt 0))] [] h Q) : WP 18 0 [some (.ref b), some (.int (nI v)), d2] [] h Q :=
  B18_0 (k1)
theorem V18L {h : pm_H} {Q : Option Value → pm_H → Prop} {b : Nat} {v : Nat} {k : Nat} {b5 : Nat} {b8 : Nat} (S : SK h) (t1 : zT h b = 2) (k3 : ((zI h b 3) ≤ (nI k)) → Q (some (.int (Int32.ofInt (-1)))) h) (t4 : (¬ (zI h b 3) ≤ (nI k)) → zT h b = 2) (e6 : (¬ (zI h b 3) ≤ (nI k)) → zR h b 2 = some b5) (g7 : (¬ (zI h b 3) ≤ (nI k)) → (zT h b5 = 103 ∨ zT h b5 = 104 ∨ zT h b5 = 105) ∧ vp_in (nI k) (zN h b5)) (e9 : (¬ (zI h b 3) ≤ (nI k)) → zR h b5 ((nI k)).toNatClampNeg = some b8) (t10 : (¬ (zI h b 3) ≤ (nI k)) → zT h b8 = 3) (k12 : (¬ (zI h b 3) ≤ (nI k)) → (¬ (zI h b8 0) = (nI v)) → WP 18 2 [some (.ref b), some (.int (nI v)), some (.int ((nI k) + (Int32.ofInt 1)))] [] h Q) (k13 : (¬ (zI h b 3) ≤ (nI k)) → ((zI h b8 0) = (nI v)) → Q (some (.int (nI k))) h) : WP 18 2 [some (.ref b), some (.int (nI v)), some (.int (nI k))] [] h Q :=
  B18_2 t1 (fun c2 => B18_31 (k3 c2)) (fun c2 => B18_10 (t4 c2) (e6 c2) (g7 c2) (e9 c2) (t10 c2) (fun c11 => B18_25 (k12 c2 c11)) (fun c11 => B18_23 (k13 c2 c11)))
theorem V33 {h : pm_H} {Q : Option Value → pm_H → Prop} {b : Nat} {d2 : Option Value} (S : SK h) (t1 : zT h b = 2) (k3 : ((zI h b 1) < (Int32.ofInt 12)) → WP 40 0 [some (.ref 1)] [] h (fun v1 h1 => WP 33 19 [some (.ref 1), some (.ref b), d2] (v1.toList ++ []) h1 Q)) (k4 : (¬ (zI h b 1) < (Int32.ofInt 12)) → Q (some (.int (Int32.ofInt 0))) (yI (yI h 1 1 (Int32.ofInt 3)) 1 2 (zI h 2 5))) : WP 33 0 [some (.ref 1), some (.ref b), d2] [] h Q :=
  B33_0 t1 (fun c2 => B33_15 (S.T 1) (k3 c2)) (fun c2 => B33_9 (S.T 1) (B44_0 (S.T 1) (S.R 1 0) (S.T 2) (B45_0 (S.T 1) oi0 (B44_12 oi0 (B33_14 oi0 (k4 c2))))))
theorem V33a {h : pm_H} {Q : Option Value → pm_H → Prop} {b : Nat} {z : Int32} {d2 : Option Value} (S : SK h) (t3 : (¬ z = 0) → (¬ (zI h 2 4) = (Int32.ofInt 1)) → zT h b = 2) (k4 : (¬ z = 0) → (¬ (zI h 2 4) = (Int32.ofInt 1)) → WP 17 0 [some (.ref b), some (.int (Int32.ofInt (-1))), none] [] h (fun v1 h1 => WP 33 37 [some (.ref 1), some (.ref b), some (.int (Int32.ofInt (-1)))] (v1.toList ++ []) h1 Q)) (g5 : (¬ z = 0) → ((zI h 2 4) = (Int32.ofInt 1)) → vp_in (zI h 2 5) 800) (t6 : (¬ z = 0) → ((zI h 2 4) = (Int32.ofInt 1)) → zT h b = 2) (k7 : (¬ z = 0) → ((zI h 2 4) = (Int32.ofInt 1)) → WP 17 0 [some (.ref b), some (.int ((zI h 3 ((zI h 2 5)).toNatClampNeg) - (Int32.ofInt 97))), none] [] h (fun v1 h1 => WP 33 37 [some (.ref 1), some (.ref b), some (.int ((zI h 3 ((zI h 2 5)).toNatClampNeg) - (Int32.ofInt 97)))] (v1.toList ++ []) h1 Q)) (k8 : (z = 0) → Q (some (.int (Int32.ofInt 0))) h) : WP 33 19 [some (.ref 1), some (.ref b), d2] [.int z] h Q :=
  B33_19 (fun c1 => B33_24 (S.T 1) (S.R 1 0) (S.T 2) (B70_0 (S.T 2) (fun c2 => B70_23 (B70_24 (B33_31 (t3 c1 c2) (k4 c1 c2)))) (fun c2 => B70_8 (S.T 2) (S.R 2 0) ⟨(S.T 3), (S.bd 3 (g5 c1 c2))⟩ (B70_24 (B33_31 (t6 c1 c2) (k7 c1 c2)))))) (fun c1 => B33_22 oi0 (k8 c1))
theorem V33b {h : pm_H} {Q : Option Value → pm_H → Prop} {b : Nat} {z : Int32} {v : Nat} (S : SK h) (k2 : (z = (Int32.ofInt (-1))) → WP 41 0 [some (.ref 1), some (.int (Int32.ofInt 58))] [] h (fun v1 h1 => WP 33 53 [some (.ref 1), some (.ref b), some (.int (nI v))] (v1.toList ++ []) h1 Q)) (k3 : (¬ z = (Int32.ofInt (-1))) → Q (some (.int (Int32.ofInt 0))) (yI (yI h 1 1 (Int32.ofInt 5)) 1 2 (zI h 2 5))) : WP 33 37 [some (.ref 1), some (.ref b), some (.int (nI v))] [.int z] h Q :=
  B33_37 (fun c1 => B33_47 (S.T 1) (k2 c1)) (fun c1 => B33_41 (S.T 1) (B44_0 (S.T 1) (S.R 1 0) (S.T 2) (B45_0 (S.T 1) oi0 (B44_12 oi0 (B33_46 oi0 (k3 c1))))))
theorem V33c {h : pm_H} {Q : Option Value → pm_H → Prop} {b : Nat} {z : Int32} {v : Nat} (S : SK h) (k2 : (z = 0) → Q (some (.int (Int32.ofInt 0))) h) (k3 : (¬ z = 0) → WP 34 0 [some (.ref 1), none, none, none] [] h (fun v1 h1 => WP 33 60 [some (.ref 1), some (.ref b), some (.int (nI v))] (v1.toList ++ []) h1 Q)) : WP 33 53 [some (.ref 1), some (.ref b), some (.int (nI v))] [.int z] h Q :=
  B33_53 (fun c1 => B33_63 oi0 (k2 c1)) (fun c1 => B33_56 (S.T 1) (k3 c1))
theorem V33d {h : pm_H} {Q : Option Value → pm_H → Prop} {b : Nat} {z : Int32} {v : Nat} (S : SK h) (k2 : (¬ z = 0) → WP 33 65 [some (.ref 1), some (.ref b), some (.int (nI v))] [] h Q) (k3 : (z = 0) → Q (some (.int (Int32.ofInt 0))) h) : WP 33 60 [some (.ref 1), some (.ref b), some (.int (nI v))] [.int z] h Q :=
  B33_60 (fun c1 => k2 c1) (fun c1 => B33_63 oi0 (k3 c1))
/-- the cells below b: only reading's rows have changed -/
def Lw (b : Nat) (h g : pm_H) : Prop := (∀ a, a < b → a ∉ ([1, 2, 4, 5, 6, 7] : List Nat) → zI g a = zI h a) ∧ (∀ a, a < b → zT g a = zT h a ∧ zN g a = zN h a ∧ zR g a = zR h a) ∧ (∀ k, k < 3 → zI g 2 k = zI h 2 k) ∧ zn h ≤ zn g
theorem Lw.rf {b : Nat} {h : pm_H} : Lw b h h := ⟨fun _ _ _ => rfl, fun _ _ => ⟨rfl, rfl, rfl⟩, fun _ _ => rfl, Nat.le_refl _⟩
theorem Lw.tr {b : Nat} {h g f : pm_H} (p : Lw b h g) (q : Lw b g f) : Lw b h f := ⟨fun a h1 h2 => (q.1 a h1 h2).trans (p.1 a h1 h2), fun a h1 => ⟨(q.2.1 a h1).1.trans (p.2.1 a h1).1, (q.2.1 a h1).2.1.trans (p.2.1 a h1).2.1, (q.2.1 a h1).2.2.trans (p.2.1 a h1).2.2⟩, fun k hk => (q.2.2.1 k hk).trans (p.2.2.1 k hk), Nat.le_trans p.2.2.2 q.2.2.2⟩
theorem Lw.C {b : Nat} {h g : pm_H} (c : CR h g) : Lw b h g := ⟨fun a _ h2 => c.1.1 a h2, fun a _ => ⟨c.1.2.1 a, c.1.2.2.1 a, c.1.2.2.2.1 a⟩, c.2, Nat.le_of_eq c.1.2.2.2.2.2.1.symm⟩
theorem Lw.N {b : Nat} {h g : pm_H} (f : Fr h g) (hb : b ≤ zn h) (b76 : 76 ≤ b) : Lw b h g := ⟨fun a h1 _ => (f.1 a (by omega)).2.2.1, fun a h1 => ⟨(f.1 a (by omega)).1, (f.1 a (by omega)).2.1, (f.1 a (by omega)).2.2.2⟩, fun k _ => by rw [(f.1 2 (by omega)).2.2.1], f.2⟩
theorem Lw.I {b : Nat} {h g : pm_H} (p : Lw b h g) (a k : Nat) (v : Int32) (ha : b ≤ a) (b76 : 76 ≤ b) : Lw b h (yI g a k v) := ⟨fun c h1 h2 => by rw [zI_yI, if_neg (by omega)]; exact p.1 c h1 h2, p.2.1, fun k hk => by rw [zI_yI, if_neg (by omega)]; exact p.2.2.1 k hk, p.2.2.2⟩
theorem Lw.R {b : Nat} {h g : pm_H} (p : Lw b h g) (a k : Nat) (v : Option Nat) (ha : b ≤ a) : Lw b h (yR g a k v) := ⟨p.1, fun c h1 => by rw [zT_yR, zN_yR, zR_yR, if_neg (by omega)]; exact p.2.1 c h1, p.2.2⟩
theorem Lw.SK {b : Nat} {h g : pm_H} (p : Lw b h g) (b76 : 76 ≤ b) (s : SK h) : SK g := by
  refine ⟨fun a ha => (p.2.1 a (by omega)).1.trans (s.1 a ha), fun a ha => (p.2.1 a (by omega)).2.1.trans (s.2.1 a ha), fun a k hk => ?_, Nat.le_trans s.2.2.2 p.2.2.2⟩
  by_cases ha : a < 76
  · rw [(p.2.1 a (by omega)).2.2]; exact s.2.2.1 a k hk
  · rw [stR_n (by omega)] at hk; cases hk
theorem CR.D {h g : pm_H} (c : CR h g) : sameD h g := c.1.D (by decide)
theorem gEl {α : Type} {l : List α} {k : Nat} {d : α} (h : k < l.length) : l.getD k d = l[k] := by
  rw [List.getD_eq_getElem?_getD, List.getElem?_eq_getElem h]; rfl
theorem atS.keepX {K : Nat} (hK : 103 ≤ K ∧ K ≤ 104) {h g : pm_H} (hd : ∀ a, dyn h a → zT h a ≠ 2 → zT h a ≠ K → zT g a = zT h a ∧ zN g a = zN h a ∧ zI g a = zI h a ∧ zR g a = zR h a) (hn : zn h ≤ zn g) {p : Nat} {s : BkS} (k : atS h p s) : atS g p s := by
  obtain ⟨k1, k2, k3, pa, ea, k4, k5, k6, k7, k8, k9, k10, k11, k12, k13⟩ := k
  obtain ⟨a1, a2, a3, a4⟩ := hd p k1 (by omega) (by omega)
  obtain ⟨b1, b2, b3, b4⟩ := hd pa k5 (by omega) (by omega)
  obtain ⟨c1, c2, c3, c4⟩ := hd ea k10 (by omega) (by omega)
  have up : ∀ a, dyn h a → dyn g a := fun a d => ⟨d.1, Nat.lt_of_lt_of_le d.2 hn⟩
  exact ⟨up _ k1, by rw [a1]; exact k2, by rw [a3]; exact k3, pa, ea, by rw [a4]; exact k4, up _ k5, by rw [b1]; exact k6, by rw [b2]; exact k7, by rw [b3]; exact k8, by rw [a4]; exact k9, up _ k10, by rw [c1]; exact k11, by rw [c2]; exact k12, by rw [c3]; exact k13⟩
theorem atB.pushS {h : pm_H} {b p : Nat} {S : List BkS} {x : BkS} (hb : atB h b (S, [])) (r0 : zR h b 0 = some (b + 1)) (hp : atS h p x) : atB (yI (yR h (b + 1) S.length (some p)) b 1 (nI (S.length + 1))) b (S ++ [x], []) := by
  obtain ⟨k1, k2, k3, k4, sa, ca, k5, k6, k7, k8, k9, k10, k11, k12, k13, k14⟩ := hb
  have esa : sa = b + 1 := by rw [k5] at r0; injection r0
  subst esa
  have hd : ∀ a, dyn h a → zT h a ≠ 2 → zT h a ≠ 103 → zT (yI (yR h (b + 1) S.length (some p)) b 1 (nI (S.length + 1))) a = zT h a ∧ zN (yI (yR h (b + 1) S.length (some p)) b 1 (nI (S.length + 1))) a = zN h a ∧ zI (yI (yR h (b + 1) S.length (some p)) b 1 (nI (S.length + 1))) a = zI h a ∧ zR (yI (yR h (b + 1) S.length (some p)) b 1 (nI (S.length + 1))) a = zR h a := fun a _ h1 h2 => by
    have n1 : a ≠ b := fun e => h1 (by rw [e]; exact k2)
    have n2 : a ≠ b + 1 := fun e => h2 (by rw [e]; exact k7)
    rw [zT_yI, zT_yR, zN_yI, zN_yR, zI_yI, if_neg n1, zI_yR, zR_yI, zR_yR, if_neg n2]
    exact ⟨rfl, rfl, rfl, rfl⟩
  have up : ∀ a, dyn h a → dyn (yI (yR h (b + 1) S.length (some p)) b 1 (nI (S.length + 1))) a := fun a d => d
  have nb : b ≠ b + 1 := by omega
  refine ⟨up _ k1, k2, by rw [zI_yI, if_pos rfl, va_upA, if_pos rfl]; simp, by rw [zI_yI, if_pos rfl, va_upA, if_neg (by decide)]; exact k4, b + 1, ca, by rw [zR_yI, zR_yR, if_neg nb]; exact k5, up _ k6, k7, k8, by rw [zR_yI, zR_yR, if_neg nb]; exact k9, up _ k10, k11, k12, fun s hs => ?_, fun c hc => absurd hc (Nat.not_lt_zero _)⟩
  have hs' : s < S.length + 1 := by simpa using hs
  by_cases e : s = S.length
  · subst e
    refine ⟨p, by rw [zR_yI, zR_yR, if_pos rfl, va_upA, if_pos rfl], ?_⟩
    have ex : (S ++ [x])[S.length] = x := by simp
    simp only [ex]
    exact hp.keepX (by decide) hd (Nat.le_refl _)
  · have hl : s < S.length := by omega
    obtain ⟨p', q1, q2⟩ := k13 s hl
    refine ⟨p', by rw [zR_yI, zR_yR, if_pos rfl, va_upA, if_neg e]; exact q1, ?_⟩
    have ex : (S ++ [x])[s] = S[s] := by rw [List.getElem_append_left hl]
    simp only [ex]
    exact q2.keepX (by decide) hd (Nat.le_refl _)
section CST
variable {h : pm_H} {Q : Option Value → pm_H → Prop} {ch : Nat → Nat} {n i b : Nat}
theorem c17 {B : Bk} {v : Nat} (K : SK h) (hb : atB h b B) (s12 : B.1.length ≤ 12) (hS : ∀ s ∈ B.1, s.1 < 26) (hv : v < 10000) (d : dif (nmS B.1) B.1.length) (kn : fnd (nmS B.1) v B.1.length = none → Q (some (.int (Int32.ofInt (-1)))) h) (ks : ∀ s, fnd (nmS B.1) v B.1.length = some s → Q (some (.int (nI s))) h) : WP 17 0 [some (.ref b), some (.int (nI v)), none] [] h Q := by
  obtain ⟨k1, k2, k3, k4, sa, ca, k5, k6, k7, k8, k9, k10, k11, k12, k13, k14⟩ := hb
  have L : ∀ r k, k + r = B.1.length → (∀ j, j < k → ¬ nmS B.1 j = v) → WP 17 2 [some (.ref b), some (.int (nI v)), some (.int (nI k))] [] h Q := by
    intro r
    induction r with
    | zero =>
      intro k hk no
      obtain rfl : k = B.1.length := by omega
      have k' := kn ((fnd_n _).mpr no)
      refine V17L (b5 := 0) (b8 := 0) K ?_ ?_ ?_ ?_ ?_ ?_ ?_ ?_ ?_ <;> simp (disch := omega) only [oi_l, oi_n, z_nI, nIA, nIM, nIS, nIlt, nIle, nIeq, nIC, vpI, Nat.add_sub_cancel, Nat.not_le, Nat.not_lt, Nat.not_lt_zero, Nat.le_refl, not_true_eq_false, not_false_eq_true, false_imp_iff, true_imp_iff, forall_const, implies_true, Nat.reduceEqDiff, Nat.reduceLeDiff, Nat.reduceLT, k2, k3] <;> first | omega | exact k'
    | succ r ih =>
      intro k hk no
      obtain ⟨p, q1, q2⟩ := k13 k (by omega)
      have en : nmS B.1 k = B.1[k].1 := by unfold nmS; rw [gEl (by omega)]
      have nm := q2.2.2.1
      rw [← en] at nm
      have n26 : nmS B.1 k < 26 := by rw [en]; exact hS _ (List.getElem_mem (by omega))
      have lk : ¬ B.1.length ≤ k := by omega
      by_cases e : nmS B.1 k = v
      · have k' := ks k (fnd_d d (by omega) e)
        refine V17L (b5 := sa) (b8 := p) K ?_ ?_ ?_ ?_ ?_ ?_ ?_ ?_ ?_ <;> simp (disch := omega) only [oi_l, oi_n, z_nI, nIA, nIM, nIS, nIlt, nIle, nIeq, nIC, vpI, Nat.add_sub_cancel, Nat.not_le, Nat.not_lt, Nat.not_lt_zero, Nat.le_refl, not_true_eq_false, not_false_eq_true, false_imp_iff, true_imp_iff, forall_const, implies_true, Nat.reduceEqDiff, Nat.reduceLeDiff, Nat.reduceLT, k2, k3, k5, k7, k8, q1, q2.2.1, nm, lk, eq_true e, true_or, true_and] <;> first | omega | exact k'
      · have I' := ih (k + 1) (by omega) (fun j hj => by
          by_cases ej : j = k
          · rw [ej]; exact e
          · exact no j (by omega))
        refine V17L (b5 := sa) (b8 := p) K ?_ ?_ ?_ ?_ ?_ ?_ ?_ ?_ ?_ <;> simp (disch := omega) only [oi_l, oi_n, z_nI, nIA, nIM, nIS, nIlt, nIle, nIeq, nIC, vpI, Nat.add_sub_cancel, Nat.not_le, Nat.not_lt, Nat.not_lt_zero, Nat.le_refl, not_true_eq_false, not_false_eq_true, false_imp_iff, true_imp_iff, forall_const, implies_true, Nat.reduceEqDiff, Nat.reduceLeDiff, Nat.reduceLT, k2, k3, k5, k7, k8, q1, q2.2.1, nm, lk, e, true_or, true_and] <;> first | omega | exact I'
  exact V17 K (L _ 0 (Nat.zero_add _) (fun j hj => absurd hj (Nat.not_lt_zero _)))
theorem c18 {B : Bk} {v : Nat} (K : SK h) (hb : atB h b B) (s12 : B.2.length ≤ 6) (hS : ∀ s ∈ B.2, s.1 < 26) (hv : v < 10000) (d : dif (nmC B.2) B.2.length) (kn : fnd (nmC B.2) v B.2.length = none → Q (some (.int (Int32.ofInt (-1)))) h) (ks : ∀ s, fnd (nmC B.2) v B.2.length = some s → Q (some (.int (nI s))) h) : WP 18 0 [some (.ref b), some (.int (nI v)), none] [] h Q := by
  obtain ⟨k1, k2, k3, k4, sa, ca, k5, k6, k7, k8, k9, k10, k11, k12, k13, k14⟩ := hb
  have L : ∀ r k, k + r = B.2.length → (∀ j, j < k → ¬ nmC B.2 j = v) → WP 18 2 [some (.ref b), some (.int (nI v)), some (.int (nI k))] [] h Q := by
    intro r
    induction r with
    | zero =>
      intro k hk no
      obtain rfl : k = B.2.length := by omega
      have k' := kn ((fnd_n _).mpr no)
      refine V18L (b5 := 0) (b8 := 0) K ?_ ?_ ?_ ?_ ?_ ?_ ?_ ?_ ?_ <;> simp (disch := omega) only [oi_l, oi_n, z_nI, nIA, nIM, nIS, nIlt, nIle, nIeq, nIC, vpI, Nat.add_sub_cancel, Nat.not_le, Nat.not_lt, Nat.not_lt_zero, Nat.le_refl, not_true_eq_false, not_false_eq_true, false_imp_iff, true_imp_iff, forall_const, implies_true, Nat.reduceEqDiff, Nat.reduceLeDiff, Nat.reduceLT, k2, k4] <;> first | omega | exact k'
    | succ r ih =>
      intro k hk no
      obtain ⟨p, q1, q2⟩ := k14 k (by omega)
      have en : nmC B.2 k = B.2[k].1 := by unfold nmC; rw [gEl (by omega)]
      have nm := q2.2.2.1
      rw [← en] at nm
      have n26 : nmC B.2 k < 26 := by rw [en]; exact hS _ (List.getElem_mem (by omega))
      have lk : ¬ B.2.length ≤ k := by omega
      by_cases e : nmC B.2 k = v
      · have k' := ks k (fnd_d d (by omega) e)
        refine V18L (b5 := ca) (b8 := p) K ?_ ?_ ?_ ?_ ?_ ?_ ?_ ?_ ?_ <;> simp (disch := omega) only [oi_l, oi_n, z_nI, nIA, nIM, nIS, nIlt, nIle, nIeq, nIC, vpI, Nat.add_sub_cancel, Nat.not_le, Nat.not_lt, Nat.not_lt_zero, Nat.le_refl, not_true_eq_false, not_false_eq_true, false_imp_iff, true_imp_iff, forall_const, implies_true, Nat.reduceEqDiff, Nat.reduceLeDiff, Nat.reduceLT, k2, k4, k9, k11, k12, q1, q2.2.1, nm, lk, eq_true e, true_or, or_true, true_and, Nat.reduceEqDiff, false_or] <;> first | omega | exact k'
      · have I' := ih (k + 1) (by omega) (fun j hj => by
          by_cases ej : j = k
          · rw [ej]; exact e
          · exact no j (by omega))
        refine V18L (b5 := ca) (b8 := p) K ?_ ?_ ?_ ?_ ?_ ?_ ?_ ?_ ?_ <;> simp (disch := omega) only [oi_l, oi_n, z_nI, nIA, nIM, nIS, nIlt, nIle, nIeq, nIC, vpI, Nat.add_sub_cancel, Nat.not_le, Nat.not_lt, Nat.not_lt_zero, Nat.le_refl, not_true_eq_false, not_false_eq_true, false_imp_iff, true_imp_iff, forall_const, implies_true, Nat.reduceEqDiff, Nat.reduceLeDiff, Nat.reduceLT, k2, k4, k9, k11, k12, q1, q2.2.1, nm, lk, e, true_or, or_true, true_and, Nat.reduceEqDiff, false_or] <;> first | omega | exact I'
  exact V18 K (L _ 0 (Nat.zero_add _) (fun j hj => absurd hj (Nat.not_lt_zero _)))
theorem c13 {p : Nat} {S : List BkS} {x : BkS} (hb : atB h b (S, [])) (r0 : zR h b 0 = some (b + 1)) (hS : S.length < 12) (hp : atS h p x) (k0 : Q none (yI (yR h (b + 1) S.length (some p)) b 1 (nI (S.length + 1)))) : WP 13 0 [some (.ref b), some (.ref p)] [] h Q := by
  obtain ⟨k1, k2, k3, k4, sa, ca, k5, k6, k7, k8, k9, k10, k11, k12, k13, k14⟩ := hb
  have esa : sa = b + 1 := by rw [k5] at r0; injection r0
  subst esa
  have k3' : zI h b 1 = nI S.length := k3
  have k8' : zN h (b + 1) = 12 := k8
  refine B13_0 k2 k5 (by rw [k7]; decide) (fun q => ?_) (fun _ => ?_)
  · exfalso
    rw [k8', k3', oi_n, nIle (by omega) (by omega)] at q
    omega
  · have ec : (nI S.length).toNatClampNeg = S.length := nIC (by omega)
    refine B13_12 k2 k5 ⟨Or.inl k7, by rw [hp.2.1, k7]; rfl, by rw [k3', k8', vpI (by omega) (by omega)]; omega⟩ k2 (B13_32 ?_)
    have ez : zI (yR h (b + 1) ((zI h b 1)).toNatClampNeg (some p)) b 1 + Int32.ofInt 1 = nI (S.length + 1) := by
      rw [zI_yR, k3']; exact nIA _ _
    rw [ez, k3', ec]
    exact k0
theorem c34 (K : SK h) (hn : n ≤ 800) (hi : i ≤ n) (e2 : zI h 2 2 = nI n) (e3 : zI h 2 3 = nI i) (hch : CH h 3 ch n) (c5 : C5 h)
    (kb : ∀ k p, pcs ch n (n + 1) i [] [] false = .inl (k, p) → ∀ g, CR h g → C5 g → zI g 1 1 = nI k → zI g 1 2 = nI p → Q (some (.int (Int32.ofInt 0))) g)
    (k0 : ∀ j l', pcs ch n (n + 1) i [] [] false = .inr (j, l') → ∀ g, CR h g → zI g 1 = zI h 1 → zI g 2 3 = nI j → WV g l' [] → Q (some (.int (Int32.ofInt 1))) g) : WP 34 0 [some (.ref 1), none, none, none] [] h Q := by
  have cr : CR h (yI (yI h 4 1 (nI 0)) 4 4 (nI 0)) := CR.W (L := [4]) ((Same.rf.I 4 _ _ (by decide)).I 4 _ _ (by decide)) (by decide)
  have q1 : zI (yI (yI h 4 1 (nI 0)) 4 4 (nI 0)) 1 = zI h 1 := by simp only [zI_yI, Nat.reduceEqDiff, if_false]
  refine V34 K ?_
  refine c34L (h := yI (yI h 4 1 (nI 0)) 4 4 (nI 0)) (cr.1.SK K) hn (by simp only [zI_yI, Nat.reduceEqDiff, if_false]; exact e2) (by unfold CH; simp only [zI_yI, Nat.reduceEqDiff, if_false]; exact hch) (n + 1) i 0 [] [] false _ none (nI 0) (by omega) hi (Nat.zero_le _) CR.rf rfl (by simp only [zI_yI, Nat.reduceEqDiff, if_false]; exact e3) ⟨⟨by simp [zI_yI, va_upA]; rfl, by decide, fun j hj => absurd hj (Nat.not_lt_zero _), fun j => by simp⟩, by simp only [zI_yI, Nat.reduceEqDiff, if_false]; exact c5, by simp [zI_yI, va_upA]; rfl, by decide, fun d hd => absurd hd (Nat.not_lt_zero _)⟩ trivial rfl (fun k p e g cg c5g f1 f2 => kb k p e g (cr.tr cg) c5g f1 f2) (fun j l' e g cg f1 f3 w => k0 j l' e g (cr.tr cg) (by rw [f1, q1]) f3 w)
set_option maxHeartbeats 2000000 in
theorem c33 {S : List BkS} (K : SK h) (b76 : 76 ≤ b) (bz : b ≤ zn h) (hb : atB h b (S, [])) (r0 : zR h b 0 = some (b + 1)) (r2 : zR h b 2 = some (b + 2)) (s12 : S.length ≤ 12) (hS : ∀ s ∈ S, s.1 < 26) (dS : dif (nmS S) S.length) (hn : n ≤ 800) (hi : i ≤ n) (e2 : zI h 2 2 = nI n) (ct : CT h ch n i) (hch : CH h 3 ch n) (c5 : C5 h)
    (kb : ∀ k p, rdS ch n S i (tnx ch n i) (tnx ch n (tnx ch n i)) = .inl (k, p) → ∀ g, Lw b h g → C5 g → zI g 1 1 = nI k → zI g 1 2 = nI p → zn g = zn h → zk g = zk h → Q (some (.int (Int32.ofInt 0))) g)
    (k0 : ∀ j s, rdS ch n S i (tnx ch n i) (tnx ch n (tnx ch n i)) = .inr (j, s) → ∀ g, Lw b h g → C5 g → zI g 1 = zI h 1 → zI g 2 3 = nI j → atB g b (S ++ [s], []) → zR g b 0 = some (b + 1) → zR g b 2 = some (b + 2) → zn g = zn h + 3 → zk g ≤ zk h + 803 → s.2.length ≤ 400 → (∀ j, s.2.getD j 0 < 8) → Q (some (.int (Int32.ofInt 1))) g) : WP 33 0 [some (.ref 1), some (.ref b), none] [] h Q := by
  have nb := tnx_b (ch := ch) hi
  have pb := tpl_b (ch := ch) hi
  have nb2 := tnx_b (ch := ch) nb.2.1
  have pb2 := tpl_b (ch := ch) nb.2.1
  have nb3 := tnx_b (ch := ch) nb2.2.1
  obtain ⟨r3, r4, r5, r6⟩ := ct
  have tb : zT h b = 2 := hb.2.1
  have eb1 : zI h b 1 = nI S.length := hb.2.2.1
  -- a fault
  have ft : ∀ k p, rdS ch n S i (tnx ch n i) (tnx ch n (tnx ch n i)) = .inl (k, p) → ∀ g, CR h g → C5 g → zI g 1 1 = nI k → zI g 1 2 = nI p → Q (some (.int (Int32.ofInt 0))) g := fun k p e g cg c5g f1 f2 => kb k p e g (Lw.C cg) c5g f1 f2 cg.1.2.2.2.2.2.1 cg.1.2.2.2.2.2.2
  have c5f : ∀ g, CF h g → C5 g := fun g cg => by unfold C5; rw [cg.1.1 5 (by decide)]; exact c5
  by_cases full : 12 ≤ S.length
  · have k' := ft 3 (tpl ch n i) (by unfold rdS; rw [if_pos full]) (yI (yI h 1 1 (nI 3)) 1 2 (nI (tpl ch n i))) ((CR.rf.F 1 _).F 2 _) (by unfold C5; simp only [zI_yI, Nat.reduceEqDiff, if_false]; exact c5) (by simp [zI_yI, va_upA]) (by simp [zI_yI, va_upA])
    refine V33  K ?_ ?_ ?_ <;> simp (disch := omega) only [oi_l, oi_n, z_nI, nIA, nIM, nIS, nIlt, nIle, nIeq, nIC, vpI, Nat.add_sub_cancel, Nat.not_le, Nat.not_lt, Nat.not_lt_zero, Nat.le_refl, not_true_eq_false, not_false_eq_true, false_imp_iff, true_imp_iff, forall_const, implies_true, Nat.reduceEqDiff, Nat.reduceLeDiff, Nat.reduceLT, tb, eb1, r5, show ¬ S.length < 12 by omega] <;> first | omega | exact k'
  have A' : WP 40 0 [some (.ref 1)] [] h (fun v1 h1 => WP 33 19 [some (.ref 1), some (.ref b), none] (v1.toList ++ []) h1 Q) := by
    refine c40 K hn nb.2.1 e2 r3 hch (fun q g cg f1 f2 => ?_) (fun nm g1 t1 ct1 => ?_)
    · have k' := ft _ _ (by unfold rdS; rw [if_neg full, if_pos q]) g cg.C (c5f g cg) f1 f2
      refine V33a  (cg.1.SK K) ?_ ?_ ?_ ?_ ?_ ?_ <;> simp (disch := omega) only [oi_l, oi_n, z_nI, nIA, nIM, nIS, nIlt, nIle, nIeq, nIC, vpI, Nat.add_sub_cancel, Nat.not_le, Nat.not_lt, Nat.not_lt_zero, Nat.le_refl, not_true_eq_false, not_false_eq_true, false_imp_iff, true_imp_iff, forall_const, implies_true, Nat.reduceEqDiff, Nat.reduceLeDiff, Nat.reduceLT] <;> first | omega | exact k'
    obtain ⟨x3, x4, x5, x6⟩ := ct1
    have x6' := ct_l x6 nm.1 nm.2
    have tl := tk1l nm.1
    have S1 := t1.1.SK K
    have cr1 : CR h g1 := CR.T t1
    have hb1 : atB g1 b (S, []) := hb.keep cr1.D
    have C' : WP 17 0 [some (.ref b), some (.int (nI (tvl ch n (tnx ch n i)))), none] [] g1 (fun v1 h1 => WP 33 37 [some (.ref 1), some (.ref b), some (.int (nI (tvl ch n (tnx ch n i))))] (v1.toList ++ []) h1 Q) := by
      refine c17 S1 hb1 s12 hS (by omega) dS (fun fn => ?_) (fun s fs => ?_)
      · have D' : WP 41 0 [some (.ref 1), some (.int (nI 58))] [] g1 (fun v1 h1 => WP 33 53 [some (.ref 1), some (.ref b), some (.int (nI (tvl ch n (tnx ch n i))))] (v1.toList ++ []) h1 Q) := by
          refine c41 (c := 58) (by decide) S1 hn nb2.2.1 (by rw [t1.2 2 (by decide)]; exact e2) x3 (hch.keep (t1.1.1 3 (by decide))) (fun q g cg f1 f2 => ?_) (fun sg g2 t2 ct2 => ?_)
          · have k' := ft _ _ (by unfold rdS; rw [if_neg full, if_neg (fun q => q nm), if_neg (fun q => q fn), if_pos q]) g (cr1.tr cg.C) (by unfold C5; rw [cg.1.1 5 (by decide), t1.1.1 5 (by decide)]; exact c5) f1 f2
            refine V33c  (cg.1.SK S1) ?_ ?_ <;> simp (disch := omega) only [oi_l, oi_n, z_nI, nIA, nIM, nIS, nIlt, nIle, nIeq, nIC, vpI, Nat.add_sub_cancel, Nat.not_le, Nat.not_lt, Nat.not_lt_zero, Nat.le_refl, not_true_eq_false, not_false_eq_true, false_imp_iff, true_imp_iff, forall_const, implies_true, Nat.reduceEqDiff, Nat.reduceLeDiff, Nat.reduceLT] <;> first | omega | exact k'
          obtain ⟨y3, y4, y5, y6⟩ := ct2
          have S2 := t2.1.SK S1
          have cr2 : CR h g2 := cr1.tr (CR.T t2)
          have rq : ∀ r, pcs ch n (n + 1) (tnx ch n (tnx ch n (tnx ch n i))) [] [] false = r → rdS ch n S i (tnx ch n i) (tnx ch n (tnx ch n i)) = match r with | .inl f => .inl f | .inr (j, l) => .inr (j, (tvl ch n (tnx ch n i), l)) := fun r er => by
            unfold rdS; rw [if_neg full, if_neg (fun q => q nm), if_neg (fun q => q fn), if_neg (fun z => z sg), er]
            rcases r with f | ⟨j, l⟩ <;> rfl
          have E' : WP 34 0 [some (.ref 1), none, none, none] [] g2 (fun v1 h1 => WP 33 60 [some (.ref 1), some (.ref b), some (.int (nI (tvl ch n (tnx ch n i))))] (v1.toList ++ []) h1 Q) := by
            refine c34 S2 hn nb3.2.1 (by rw [cr2.2 2 (by decide)]; exact e2) y3 (hch.keep (cr2.1.1 3 (by decide))) (by unfold C5; rw [t2.1.1 5 (by decide), t1.1.1 5 (by decide)]; exact c5) (fun k p e g cg c5g f1 f2 => ?_) (fun j l' e g3 cr3 f1 f3 w => ?_)
            · have k' := ft k p (by rw [rq _ e]) g (cr2.tr cg) c5g f1 f2
              refine V33d  (cg.1.SK S2) ?_ ?_ <;> simp (disch := omega) only [oi_l, oi_n, z_nI, nIA, nIM, nIS, nIlt, nIle, nIeq, nIC, vpI, Nat.add_sub_cancel, Nat.not_le, Nat.not_lt, Nat.not_lt_zero, Nat.le_refl, not_true_eq_false, not_false_eq_true, false_imp_iff, true_imp_iff, forall_const, implies_true, Nat.reduceEqDiff, Nat.reduceLeDiff, Nat.reduceLT] <;> first | omega | exact k'
            have cr3' : CR h g3 := cr2.tr cr3
            have S3 := cr3'.1.SK K
            obtain ⟨⟨w1, w2, w3, w4⟩, w5, -⟩ := w
            have z3 : zn g3 = zn h := cr3'.1.2.2.2.2.2.1
            have z3k : zk g3 = zk h := cr3'.1.2.2.2.2.2.2
            have z76 := S3.2.2.2
            have F' : WP 33 65 [some (.ref 1), some (.ref b), some (.int (nI (tvl ch n (tnx ch n i))))] [] g3 Q := by
              have fN : Fr g3 (yN g3 9 0 3) := Fr.rf.N _ _ _
              have SN := fN.SK S3
              refine B33_65 (b2 := 4) (b5 := 5) (SN.T 1) (SN.R 1 3) (SN.T 4) (SN.R 4 0) ?_
              have e41 : zI (yN g3 9 0 3) 4 1 = nI l'.length := by rw [(fN.1 4 (by omega)).2.2.1]; exact w1
              rw [e41]
              refine c54 (v := tvl ch n (tnx ch n i)) S3 w2 w4 w3 w5 (fun g4 f4 n4 k4 a4 => ?_)
              have lw4 : Lw b h g4 := (Lw.C cr3').tr (Lw.N f4 (by omega) b76)
              have S4 := f4.SK S3
              have hb4 : atB g4 b (S, []) := (hb.keep cr3'.D).keep (f4.D S3)
              have rb : zR g4 b = zR h b := by rw [(f4.1 b (by have := (hb.keep cr3'.D).1.2; exact this)).2.2.2, cr3'.1.2.2.2.1 b]
              have tb4 : zT g4 b = 2 := hb4.2.1
              refine B33_88 tb4 ?_
              refine c13 hb4 (by rw [rb]; exact r0) (by omega) a4 ?_
              refine B33_91 oi1 ?_
              have nbb : b ≠ b + 1 := by omega
              refine k0 j _ (by rw [rq _ e]) _ ((lw4.R _ _ _ (by omega)).I _ _ _ (Nat.le_refl _) b76) ?_ ?_ ?_ (hb4.pushS (by rw [rb]; exact r0) a4) ?_ ?_ ?_ ?_ w2 w4
              · unfold C5
                rw [zI_yI, if_neg (by omega), zI_yR, (f4.1 5 (by omega)).2.2.1]; exact w5
              · rw [zI_yI, if_neg (by omega), zI_yR, (f4.1 1 (by omega)).2.2.1, f1, t2.1.1 1 (by decide), t1.1.1 1 (by decide)]
              · rw [zI_yI, if_neg (by omega), zI_yR, (f4.1 2 (by omega)).2.2.1]; exact f3
              · rw [zR_yI, zR_yR, if_neg nbb, rb]; exact r0
              · rw [zR_yI, zR_yR, if_neg nbb, rb]; exact r2
              · rw [zn_yI, zn_yR]; omega
              · rw [zk_yI, zk_yR]; omega
            refine V33d  S3 ?_ ?_ <;> simp (disch := omega) only [oi_l, oi_n, z_nI, nIA, nIM, nIS, nIlt, nIle, nIeq, nIC, vpI, Nat.add_sub_cancel, Nat.not_le, Nat.not_lt, Nat.not_lt_zero, Nat.le_refl, not_true_eq_false, not_false_eq_true, false_imp_iff, true_imp_iff, forall_const, implies_true, Nat.reduceEqDiff, Nat.reduceLeDiff, Nat.reduceLT] <;> first | omega | exact F'
          refine V33c  S2 ?_ ?_ <;> simp (disch := omega) only [oi_l, oi_n, z_nI, nIA, nIM, nIS, nIlt, nIle, nIeq, nIC, vpI, Nat.add_sub_cancel, Nat.not_le, Nat.not_lt, Nat.not_lt_zero, Nat.le_refl, not_true_eq_false, not_false_eq_true, false_imp_iff, true_imp_iff, forall_const, implies_true, Nat.reduceEqDiff, Nat.reduceLeDiff, Nat.reduceLT] <;> first | omega | exact E'
        refine V33b  S1 ?_ ?_ <;> simp (disch := omega) only [oi_l, oi_n, z_nI, nIA, nIM, nIS, nIlt, nIle, nIeq, nIC, vpI, Nat.add_sub_cancel, Nat.not_le, Nat.not_lt, Nat.not_lt_zero, Nat.le_refl, not_true_eq_false, not_false_eq_true, false_imp_iff, true_imp_iff, forall_const, implies_true, Nat.reduceEqDiff, Nat.reduceLeDiff, Nat.reduceLT] <;> first | omega | exact D'
      · have k' := ft 5 (tpl ch n (tnx ch n i)) (by unfold rdS; rw [if_neg full, if_neg (fun q => q nm), if_pos (fun q => by rw [q] at fs; cases fs)]) (yI (yI g1 1 1 (nI 5)) 1 2 (nI (tpl ch n (tnx ch n i)))) ((cr1.F 1 _).F 2 _) (by unfold C5; simp only [zI_yI, Nat.reduceEqDiff, if_false]; rw [t1.1.1 5 (by decide)]; exact c5) (by simp [zI_yI, va_upA]) (by simp [zI_yI, va_upA])
        have sb : s < S.length := (fnd_s _ fs).1
        have nm1 : ¬ nI s = Int32.ofInt (-1) := fun q => by
          have := congrArg Int32.toInt q
          rw [nI_i (by omega)] at this
          rw [Int32.toInt_ofInt_of_le (by decide) (by decide)] at this
          omega
        refine V33b  S1 ?_ ?_ <;> simp (disch := omega) only [oi_l, oi_n, z_nI, nIA, nIM, nIS, nIlt, nIle, nIeq, nIC, vpI, Nat.add_sub_cancel, Nat.not_le, Nat.not_lt, Nat.not_lt_zero, Nat.le_refl, not_true_eq_false, not_false_eq_true, false_imp_iff, true_imp_iff, forall_const, implies_true, Nat.reduceEqDiff, Nat.reduceLeDiff, Nat.reduceLT, x5, nm1] <;> first | omega | exact k'
    have tb1 : zT g1 b = 2 := hb1.2.1
    rw [nm.1] at x4
    refine V33a  S1 ?_ ?_ ?_ ?_ ?_ ?_ <;> simp (disch := omega) only [oi_l, oi_n, z_nI, nIA, nIM, nIS, nIlt, nIle, nIeq, nIC, vpI, Nat.add_sub_cancel, Nat.not_le, Nat.not_lt, Nat.not_lt_zero, Nat.le_refl, not_true_eq_false, not_false_eq_true, false_imp_iff, true_imp_iff, forall_const, implies_true, Nat.reduceEqDiff, Nat.reduceLeDiff, Nat.reduceLT, tb1, x4, x5, x6'] <;> first | omega | exact C'
  refine V33  K ?_ ?_ ?_ <;> simp (disch := omega) only [oi_l, oi_n, z_nI, nIA, nIM, nIS, nIlt, nIle, nIeq, nIC, vpI, Nat.add_sub_cancel, Nat.not_le, Nat.not_lt, Nat.not_lt_zero, Nat.le_refl, not_true_eq_false, not_false_eq_true, false_imp_iff, true_imp_iff, forall_const, implies_true, Nat.reduceEqDiff, Nat.reduceLeDiff, Nat.reduceLT, tb, eb1, show S.length < 12 by omega] <;> first | omega | exact A'
end CST

/-! the model's seams -/
theorem V153 {h : pm_H} {Q : Option Value → pm_H → Prop} {x1 : Int32} {x2 : Int32} {x3 : Int32} {x4 : Int32} {d5 : Option Value} (S : SK h) (k2 : ((x4 - x2) < 0) → Q (some (.int (Int32.ofInt (-1)))) h) (g3 : (¬ (x4 - x2) < 0) → vp_in x1 12) (g6 : (¬ (x4 - x2) < 0) → ((x4 - x2) < (zI h 38 (x1).toNatClampNeg)) → (x3 = 0) → vp_in (((Int32.ofInt 400) * x1) + (x4 - x2)) 4800) (k7 : (¬ (x4 - x2) < 0) → ((x4 - x2) < (zI h 38 (x1).toNatClampNeg)) → (x3 = 0) → Q (some (.int (zI h 45 ((((Int32.ofInt 400) * x1) + (x4 - x2))).toNatClampNeg))) h) (g8 : (¬ (x4 - x2) < 0) → ((x4 - x2) < (zI h 38 (x1).toNatClampNeg)) → (¬ x3 = 0) → vp_in x1 12) (g9 : (¬ (x4 - x2) < 0) → ((x4 - x2) < (zI h 38 (x1).toNatClampNeg)) → (¬ x3 = 0) → vp_in (((Int32.ofInt 400) * x1) + (((zI h 38 (x1).toNatClampNeg) - (Int32.ofInt 1)) - (x4 - x2))) 4800) (k10 : (¬ (x4 - x2) < 0) → ((x4 - x2) < (zI h 38 (x1).toNatClampNeg)) → (¬ x3 = 0) → Q (some (.int (zI h 45 ((((Int32.ofInt 400) * x1) + (((zI h 38 (x1).toNatClampNeg) - (Int32.ofInt 1)) - (x4 - x2)))).toNatClampNeg))) h) (k11 : (¬ (x4 - x2) < 0) → (¬ (x4 - x2) < (zI h 38 (x1).toNatClampNeg)) → Q (some (.int (Int32.ofInt (-1)))) h) : WP 153 0 [some (.ref 35), some (.int x1), some (.int x2), some (.int x3), some (.int x4), d5] [] h Q :=
  B153_0 (fun c1 => B153_22 (k2 c1)) (fun c1 => B153_11 (S.T 35) (S.R 35 20) ⟨(S.T 38), (S.bd 38 (g3 c1))⟩ (fun c4 => B153_24 (S.T 35) (S.R 35 27) (fun c5 => B153_51 (B153_53 ⟨(S.T 45), (S.bd 45 (g6 c1 c4 c5))⟩ (k7 c1 c4 c5))) (fun c5 => B153_37 (S.T 35) (S.R 35 20) ⟨(S.T 38), (S.bd 38 (g8 c1 c4 c5))⟩ (B153_53 ⟨(S.T 45), (S.bd 45 (g9 c1 c4 c5))⟩ (k10 c1 c4 c5)))) (fun c4 => B153_22 (k11 c1 c4)))
theorem V155 {h : pm_H} {Q : Option Value → pm_H → Prop} {a1 : Int32} {f1 : Int32} {u1 : Int32} {a2 : Int32} {f2 : Int32} {u2 : Int32} {d7 : Option Value} {d8 : Option Value} {d9 : Option Value} {d10 : Option Value} {d11 : Option Value} (S : SK h) (k1 : WP 155 19 [some (.ref 35), some (.int a1), some (.int f1), some (.int u1), some (.int a2), some (.int f2), some (.int u2), some (.int (Int32.ofInt (-1))), some (.int (Int32.ofInt (-1))), some (.int (Int32.ofInt 0)), d10, d11] [] (yI (yI h 35 63 (Int32.ofInt 0)) 35 64 (Int32.ofInt 0)) Q) : WP 155 0 [some (.ref 35), some (.int a1), some (.int f1), some (.int u1), some (.int a2), some (.int f2), some (.int u2), d7, d8, d9, d10, d11] [] h Q :=
  B155_0 (S.T 35) (k1)
theorem V155L {h : pm_H} {Q : Option Value → pm_H → Prop} {a1 : Int32} {f1 : Int32} {u1 : Int32} {a2 : Int32} {f2 : Int32} {u2 : Int32} {a : Int32} {b : Int32} {d10 : Option Value} {d11 : Option Value} {k : Nat} (S : SK h) (k2 : ((Int32.ofInt 500) ≤ (nI k)) → Q none h) (k3 : (¬ (Int32.ofInt 500) ≤ (nI k)) → WP 153 0 [some (.ref 35), some (.int a1), some (.int f1), some (.int u1), some (.int (nI k)), none] [] h (fun v1 h1 => WP 155 36 [some (.ref 35), some (.int a1), some (.int f1), some (.int u1), some (.int a2), some (.int f2), some (.int u2), some (.int a), some (.int b), some (.int (nI k)), d10, d11] (v1.toList ++ []) h1 Q)) : WP 155 19 [some (.ref 35), some (.int a1), some (.int f1), some (.int u1), some (.int a2), some (.int f2), some (.int u2), some (.int a), some (.int b), some (.int (nI k)), d10, d11] [] h Q :=
  B155_19 (fun c1 => B155_135 (k2 c1)) (fun c1 => B155_27 (S.T 35) (k3 c1))
theorem V155a {h : pm_H} {Q : Option Value → pm_H → Prop} {a1 : Int32} {f1 : Int32} {u1 : Int32} {a2 : Int32} {f2 : Int32} {u2 : Int32} {a : Int32} {b : Int32} {xx : Int32} {d10 : Option Value} {d11 : Option Value} {k : Nat} (S : SK h) (k1 : WP 153 0 [some (.ref 35), some (.int a2), some (.int f2), some (.int u2), some (.int (nI k)), none] [] h (fun v1 h1 => WP 155 50 [some (.ref 35), some (.int a1), some (.int f1), some (.int u1), some (.int a2), some (.int f2), some (.int u2), some (.int a), some (.int b), some (.int (nI k)), some (.int xx), d11] (v1.toList ++ []) h1 Q)) : WP 155 36 [some (.ref 35), some (.int a1), some (.int f1), some (.int u1), some (.int a2), some (.int f2), some (.int u2), some (.int a), some (.int b), some (.int (nI k)), d10, d11] [.int xx] h Q :=
  B155_36 (S.T 35) k1
theorem V155b {h : pm_H} {Q : Option Value → pm_H → Prop} {a1 : Int32} {f1 : Int32} {u1 : Int32} {a2 : Int32} {f2 : Int32} {u2 : Int32} {a : Int32} {b : Int32} {xx : Int32} {yy : Int32} {d11 : Option Value} {k : Nat} (S : SK h) (k2 : (xx < 0) → WP 155 121 [some (.ref 35), some (.int a1), some (.int f1), some (.int u1), some (.int a2), some (.int f2), some (.int u2), some (.int a), some (.int b), some (.int (nI k)), some (.int xx), some (.int yy)] [] h Q) (k4 : (¬ xx < 0) → (yy < 0) → WP 155 121 [some (.ref 35), some (.int a1), some (.int f1), some (.int u1), some (.int a2), some (.int f2), some (.int u2), some (.int a), some (.int b), some (.int (nI k)), some (.int xx), some (.int yy)] [] h Q) (k6 : (¬ xx < 0) → (¬ yy < 0) → (¬ xx = yy) → WP 155 79 [some (.ref 35), some (.int a1), some (.int f1), some (.int u1), some (.int a2), some (.int f2), some (.int u2), some (.int a), some (.int b), some (.int (nI k)), some (.int xx), some (.int yy)] [.int (Int32.ofInt 0), .int (zI h 35 63), .ref 35] h Q) (k7 : (¬ xx < 0) → (¬ yy < 0) → (xx = yy) → WP 155 79 [some (.ref 35), some (.int a1), some (.int f1), some (.int u1), some (.int a2), some (.int f2), some (.int u2), some (.int a), some (.int b), some (.int (nI k)), some (.int xx), some (.int yy)] [.int (Int32.ofInt 1), .int (zI h 35 63), .ref 35] h Q) : WP 155 50 [some (.ref 35), some (.int a1), some (.int f1), some (.int u1), some (.int a2), some (.int f2), some (.int u2), some (.int a), some (.int b), some (.int (nI k)), some (.int xx), d11] [.int yy] h Q :=
  B155_50 (fun c1 => k2 c1) (fun c1 => B155_57 (fun c3 => k4 c1 c3) (fun c3 => B155_62 (S.T 35) (fun c5 => B155_78 (k6 c1 c3 c5)) (fun c5 => B155_74 (k7 c1 c3 c5))))
theorem V155c {h : pm_H} {Q : Option Value → pm_H → Prop} {a1 : Int32} {f1 : Int32} {u1 : Int32} {a2 : Int32} {f2 : Int32} {u2 : Int32} {a : Int32} {b : Int32} {xx : Int32} {yy : Int32} {v0 : Int32} {v1 : Int32} {k : Nat} (S : SK h) (k2 : (a < 0) → WP 155 121 [some (.ref 35), some (.int a1), some (.int f1), some (.int u1), some (.int a2), some (.int f2), some (.int u2), some (.int a), some (.int b), some (.int (nI k)), some (.int xx), some (.int yy)] [] (yI (yI h 35 63 (v0 + v1)) 35 64 ((zI h 35 64) + (Int32.ofInt 0))) Q) (k4 : (¬ a < 0) → (b < 0) → WP 155 121 [some (.ref 35), some (.int a1), some (.int f1), some (.int u1), some (.int a2), some (.int f2), some (.int u2), some (.int a), some (.int b), some (.int (nI k)), some (.int xx), some (.int yy)] [] (yI (yI h 35 63 (v0 + v1)) 35 64 ((zI h 35 64) + (Int32.ofInt 0))) Q) (k6 : (¬ a < 0) → (¬ b < 0) → (xx = a) → WP 155 121 [some (.ref 35), some (.int a1), some (.int f1), some (.int u1), some (.int a2), some (.int f2), some (.int u2), some (.int a), some (.int b), some (.int (nI k)), some (.int xx), some (.int yy)] [] (yI (yI h 35 63 (v0 + v1)) 35 64 ((zI h 35 64) + (Int32.ofInt 0))) Q) (k8 : (¬ a < 0) → (¬ b < 0) → (¬ xx = a) → (yy = b) → WP 155 121 [some (.ref 35), some (.int a1), some (.int f1), some (.int u1), some (.int a2), some (.int f2), some (.int u2), some (.int a), some (.int b), some (.int (nI k)), some (.int xx), some (.int yy)] [] (yI (yI h 35 63 (v0 + v1)) 35 64 ((zI h 35 64) + (Int32.ofInt 0))) Q) (k9 : (¬ a < 0) → (¬ b < 0) → (¬ xx = a) → (¬ yy = b) → WP 155 121 [some (.ref 35), some (.int a1), some (.int f1), some (.int u1), some (.int a2), some (.int f2), some (.int u2), some (.int a), some (.int b), some (.int (nI k)), some (.int xx), some (.int yy)] [] (yI (yI h 35 63 (v0 + v1)) 35 64 ((zI h 35 64) + (Int32.ofInt 1))) Q) : WP 155 79 [some (.ref 35), some (.int a1), some (.int f1), some (.int u1), some (.int a2), some (.int f2), some (.int u2), some (.int a), some (.int b), some (.int (nI k)), some (.int xx), some (.int yy)] [.int v1, .int v0, .ref 35] h Q :=
  B155_79 (S.T 35) (S.T 35) (fun c1 => B155_116 (B155_117 (S.T 35) (k2 c1))) (fun c1 => B155_93 (fun c3 => B155_116 (B155_117 (S.T 35) (k4 c1 c3))) (fun c3 => B155_98 (fun c5 => B155_116 (B155_117 (S.T 35) (k6 c1 c3 c5))) (fun c5 => B155_105 (fun c7 => B155_116 (B155_117 (S.T 35) (k8 c1 c3 c5 c7))) (fun c7 => B155_112 (B155_117 (S.T 35) (k9 c1 c3 c5 c7))))))
theorem V155d {h : pm_H} {Q : Option Value → pm_H → Prop} {a1 : Int32} {f1 : Int32} {u1 : Int32} {a2 : Int32} {f2 : Int32} {u2 : Int32} {a : Int32} {b : Int32} {xx : Int32} {yy : Int32} {k : Nat} (S : SK h) (k1 : WP 155 19 [some (.ref 35), some (.int a1), some (.int f1), some (.int u1), some (.int a2), some (.int f2), some (.int u2), some (.int xx), some (.int yy), some (.int ((nI k) + (Int32.ofInt 1))), some (.int xx), some (.int yy)] [] h Q) : WP 155 121 [some (.ref 35), some (.int a1), some (.int f1), some (.int u1), some (.int a2), some (.int f2), some (.int u2), some (.int a), some (.int b), some (.int (nI k)), some (.int xx), some (.int yy)] [] h Q :=
  B155_121 (k1)
theorem nISn {a b : Nat} (h : a < b) (hb : b < 2147483648) : (nI a - nI b < nI 0) = True := by
  have e : nI a - nI b = Int32.ofInt ((a : Int) - b) := by rw [← oi_n, ← oi_n, ← Int32.ofInt_sub]
  rw [eq_iff_iff, iff_true, e, Int32.lt_iff_toInt_lt, nI_i (by omega), Int32.toInt_ofInt_of_le (by omega) (by omega)]
  omega
def col (l : List Nat) (t : Bool) (s ht : Nat) : Int32 := if s ≤ ht ∧ ht < s + l.length then nI (pk l t (ht - s)) else Int32.ofInt (-1)
theorem bI_t : bI true = nI 1 := rfl
theorem bI_f : bI false = nI 0 := rfl
theorem m1lt : (Int32.ofInt (-1) < nI 0) = True := by decide
section SEAM
variable {h : pm_H} {Q : Option Value → pm_H → Prop}
theorem c153 {l : List Nat} {t : Bool} {s sh ht : Nat} (S : SK h) (hs : s < 12) (e38 : zI h 38 s = nI l.length) (e45 : ∀ k, k < l.length → zI h 45 (400 * s + k) = nI (l.getD k 0)) (ok : okS l) (h1 : sh ≤ 50) (h2 : ht ≤ 500) (k0 : Q (some (.int (col l t sh ht))) h) : WP 153 0 [some (.ref 35), some (.int (nI s)), some (.int (nI sh)), some (.int (bI t)), some (.int (nI ht)), none] [] h Q := by
  have l1 := ok.2.1
  by_cases q1 : sh ≤ ht
  · by_cases q2 : ht < sh + l.length
    · have q3 : ht - sh < l.length := by omega
      unfold col at k0
      rw [if_pos ⟨q1, q2⟩] at k0
      cases t with
      | false =>
        have e := e45 (ht - sh) q3
        rw [bI_f]
        refine V153  S ?_ ?_ ?_ ?_ ?_ ?_ ?_ ?_ <;> simp (disch := omega) only [oi_l, oi_n, z_nI, nIA, nIM, nIS, nIlt, nIle, nIeq, nIC, vpI, Nat.add_sub_cancel, Nat.not_le, Nat.not_lt, Nat.not_lt_zero, Nat.le_refl, not_true_eq_false, not_false_eq_true, false_imp_iff, true_imp_iff, forall_const, implies_true, Nat.reduceEqDiff, Nat.reduceLeDiff, Nat.reduceLT, e38, q3, e] <;> (try omega)
        exact k0
      | true =>
        have e := e45 (l.length - 1 - (ht - sh)) (by omega)
        rw [bI_t]
        refine V153  S ?_ ?_ ?_ ?_ ?_ ?_ ?_ ?_ <;> simp (disch := omega) only [oi_l, oi_n, z_nI, nIA, nIM, nIS, nIlt, nIle, nIeq, nIC, vpI, Nat.add_sub_cancel, Nat.not_le, Nat.not_lt, Nat.not_lt_zero, Nat.le_refl, not_true_eq_false, not_false_eq_true, false_imp_iff, true_imp_iff, forall_const, implies_true, Nat.reduceEqDiff, Nat.reduceLeDiff, Nat.reduceLT, e38, q3, e, Nat.succ_ne_zero] <;> (try omega)
        exact k0
    · have q3 : ¬ ht - sh < l.length := by omega
      unfold col at k0
      rw [if_neg (fun q => q2 q.2)] at k0
      refine V153  S ?_ ?_ ?_ ?_ ?_ ?_ ?_ ?_ <;> simp (disch := omega) only [oi_l, oi_n, z_nI, nIA, nIM, nIS, nIlt, nIle, nIeq, nIC, vpI, Nat.add_sub_cancel, Nat.not_le, Nat.not_lt, Nat.not_lt_zero, Nat.le_refl, not_true_eq_false, not_false_eq_true, false_imp_iff, true_imp_iff, forall_const, implies_true, Nat.reduceEqDiff, Nat.reduceLeDiff, Nat.reduceLT, e38, q3] <;> first | omega | exact k0
  · unfold col at k0
    rw [if_neg (fun q => q1 q.1)] at k0
    refine V153  S ?_ ?_ ?_ ?_ ?_ ?_ ?_ ?_ <;> simp (disch := omega) only [oi_l, oi_n, z_nI, nIA, nIM, nIS, nIlt, nIle, nIeq, nIC, vpI, Nat.add_sub_cancel, Nat.not_le, Nat.not_lt, Nat.not_lt_zero, Nat.le_refl, not_true_eq_false, not_false_eq_true, false_imp_iff, true_imp_iff, forall_const, implies_true, Nat.reduceEqDiff, Nat.reduceLeDiff, Nat.reduceLT, nISn (show ht < sh by omega)] <;> first | omega | exact k0
end SEAM
/-- only the model's alike and meets differ -/
def Sm (h g : pm_H) : Prop := Same [35] h g ∧ ∀ j, j ≠ 63 → j ≠ 64 → zI g 35 j = zI h 35 j
theorem Sm.rf {h : pm_H} : Sm h h := ⟨Same.rf, fun _ _ _ => rfl⟩
theorem Sm.I {h g : pm_H} (s : Sm h g) (i : Nat) (v : Int32) (hi : i = 63 ∨ i = 64) : Sm h (yI g 35 i v) := ⟨s.1.I 35 _ _ (by decide), fun j h1 h2 => by
  rw [zI_yI, if_pos rfl, va_upA, if_neg (by omega)]; exact s.2 j h1 h2⟩
theorem Sm.K {x : Bool} {h g : pm_H} (s : Sm h g) : Kp x h g := ⟨fun a _ _ h3 => s.1.1 a (by simp [h3]), fun k _ => by rw [s.1.1 0 (by decide)], fun k hk => s.2 k (fun e => by rw [e] at hk; cases x <;> exact absurd hk (by decide)) (fun e => by rw [e] at hk; cases x <;> exact absurd hk (by decide)), s.1.2.1, s.1.2.2.1, s.1.2.2.2.1, s.1.2.2.2.2.2.1, s.1.2.2.2.2.2.2⟩
theorem c155L {h0 : pm_H} {Q : Option Value → pm_H → Prop} {l1 l2 : List Nat} {t1 t2 : Bool} {i1 i2 s1 s2 : Nat} (hi1 : i1 < 12) (hi2 : i2 < 12) (e38 : zI h0 38 i1 = nI l1.length) (e45 : ∀ k, k < l1.length → zI h0 45 (400 * i1 + k) = nI (l1.getD k 0)) (r38 : zI h0 38 i2 = nI l2.length) (r45 : ∀ k, k < l2.length → zI h0 45 (400 * i2 + k) = nI (l2.getD k 0)) (ok1 : okS l1) (ok2 : okS l2) (hs1 : s1 ≤ 50) (hs2 : s2 ≤ 50)
    (k0 : ∀ g, Sm h0 g → zI g 35 63 = nI (SA l1 t1 s1 l2 t2 s2) → zI g 35 64 = nI (SM l1 t1 s1 l2 t2 s2) → Q none g) :
    ∀ (m k : Nat) (h : pm_H) (a b : Int32) (d10 d11 : Option Value), k + m = 500 → SK h → Sm h0 h → zI h 35 63 = nI (al (ovF l1 t1 s1 s2) (ovF l2 t2 s2 s1) (min (k - max s1 s2) (ovN l1.length s1 l2.length s2))) → zI h 35 64 = nI (me (ovF l1 t1 s1 s2) (ovF l2 t2 s2 s1) (min (k - max s1 s2) (ovN l1.length s1 l2.length s2))) →
      a = (if k = 0 then Int32.ofInt (-1) else col l1 t1 s1 (k - 1)) → b = (if k = 0 then Int32.ofInt (-1) else col l2 t2 s2 (k - 1)) →
      WP 155 19 [some (.ref 35), some (.int (nI i1)), some (.int (nI s1)), some (.int (bI t1)), some (.int (nI i2)), some (.int (nI s2)), some (.int (bI t2)), some (.int a), some (.int b), some (.int (nI k)), d10, d11] [] h Q := by
  have L1 := ok1.2.1
  have L2 := ok2.2.1
  intro m
  induction m with
  | zero =>
    intro k h a b d10 d11 hk S sa e63 e64 ea eb
    obtain rfl : k = 500 := by omega
    refine V155L  S ?_ ?_ <;> simp (disch := omega) only [oi_l, oi_n, z_nI, nIA, nIM, nIS, nIlt, nIle, nIeq, nIC, vpI, Nat.add_sub_cancel, Nat.not_le, Nat.not_lt, Nat.not_lt_zero, Nat.le_refl, not_true_eq_false, not_false_eq_true, false_imp_iff, true_imp_iff, forall_const, implies_true, Nat.reduceEqDiff, Nat.reduceLeDiff, Nat.reduceLT]
    have e : min (500 - max s1 s2) (ovN l1.length s1 l2.length s2) = ovN l1.length s1 l2.length s2 := by unfold ovN; omega
    exact k0 h sa (by rw [e63, e]; rfl) (by rw [e64, e]; rfl)
  | succ m ih =>
    intro k h a b d10 d11 hk S sa e63 e64 ea eb
    have D : ∀ (g : pm_H), SK g → Sm h0 g → zI g 35 63 = nI (al (ovF l1 t1 s1 s2) (ovF l2 t2 s2 s1) (min (k + 1 - max s1 s2) (ovN l1.length s1 l2.length s2))) → zI g 35 64 = nI (me (ovF l1 t1 s1 s2) (ovF l2 t2 s2 s1) (min (k + 1 - max s1 s2) (ovN l1.length s1 l2.length s2))) → WP 155 121 [some (.ref 35), some (.int (nI i1)), some (.int (nI s1)), some (.int (bI t1)), some (.int (nI i2)), some (.int (nI s2)), some (.int (bI t2)), some (.int a), some (.int b), some (.int (nI k)), some (.int (col l1 t1 s1 k)), some (.int (col l2 t2 s2 k))] [] g Q := by
      intro g S' sg f63 f64
      refine V155d S' ?_
      simp (disch := omega) only [oi_l, oi_n, z_nI, nIA, nIM, nIS, nIlt, nIle, nIeq, nIC, vpI, Nat.add_sub_cancel, Nat.not_le, Nat.not_lt, Nat.not_lt_zero, Nat.le_refl, not_true_eq_false, not_false_eq_true, false_imp_iff, true_imp_iff, forall_const, implies_true, Nat.reduceEqDiff, Nat.reduceLeDiff, Nat.reduceLT]
      exact ih (k + 1) g _ _ _ _ (by omega) S' sg f63 f64 rfl rfl
    refine V155L  S ?_ ?_ <;> simp (disch := omega) only [oi_l, oi_n, z_nI, nIA, nIM, nIS, nIlt, nIle, nIeq, nIC, vpI, Nat.add_sub_cancel, Nat.not_le, Nat.not_lt, Nat.not_lt_zero, Nat.le_refl, not_true_eq_false, not_false_eq_true, false_imp_iff, true_imp_iff, forall_const, implies_true, Nat.reduceEqDiff, Nat.reduceLeDiff, Nat.reduceLT, show ¬ 500 ≤ k by omega]
    refine c153 (l := l1) S hi1 (by rw [sa.1.1 38 (by decide)]; exact e38) (by rw [sa.1.1 45 (by decide)]; exact e45) ok1 hs1 (by omega) (V155a S ?_)
    refine c153 (l := l2) S hi2 (by rw [sa.1.1 38 (by decide)]; exact r38) (by rw [sa.1.1 45 (by decide)]; exact r45) ok2 hs2 (by omega) ?_
    by_cases o1 : s1 ≤ k ∧ k < s1 + l1.length
    · have c1 : col l1 t1 s1 k = nI (pk l1 t1 (k - s1)) := if_pos o1
      have p1 := ok1.pk t1 (k - s1)
      by_cases o2 : s2 ≤ k ∧ k < s2 + l2.length
      · have c2 : col l2 t2 s2 k = nI (pk l2 t2 (k - s2)) := if_pos o2
        have p2 := ok2.pk t2 (k - s2)
        have hj : min (k - max s1 s2) (ovN l1.length s1 l2.length s2) = k - max s1 s2 := by unfold ovN; omega
        have hj1 : min (k + 1 - max s1 s2) (ovN l1.length s1 l2.length s2) = k - max s1 s2 + 1 := by unfold ovN; omega
        have u1 : ovF l1 t1 s1 s2 (k - max s1 s2) = pk l1 t1 (k - s1) := by unfold ovF; rw [show s2 - s1 + (k - max s1 s2) = k - s1 by omega]
        have u2 : ovF l2 t2 s2 s1 (k - max s1 s2) = pk l2 t2 (k - s2) := by unfold ovF; rw [show s1 - s2 + (k - max s1 s2) = k - s2 by omega]
        rw [hj] at e63 e64
        rw [hj1] at D
        have C : ∀ (v0 v1 : Int32), v0 + v1 = nI (al (ovF l1 t1 s1 s2) (ovF l2 t2 s2 s1) (k - max s1 s2 + 1)) → WP 155 79 [some (.ref 35), some (.int (nI i1)), some (.int (nI s1)), some (.int (bI t1)), some (.int (nI i2)), some (.int (nI s2)), some (.int (bI t2)), some (.int a), some (.int b), some (.int (nI k)), some (.int (col l1 t1 s1 k)), some (.int (col l2 t2 s2 k))] [.int v1, .int v0, .ref 35] h Q := by
          intro v0 v1 ev
          have fin : ∀ v, v = nI (me (ovF l1 t1 s1 s2) (ovF l2 t2 s2 s1) (k - max s1 s2 + 1)) → WP 155 121 [some (.ref 35), some (.int (nI i1)), some (.int (nI s1)), some (.int (bI t1)), some (.int (nI i2)), some (.int (nI s2)), some (.int (bI t2)), some (.int a), some (.int b), some (.int (nI k)), some (.int (col l1 t1 s1 k)), some (.int (col l2 t2 s2 k))] [] (yI (yI h 35 63 (v0 + v1)) 35 64 v) Q := fun v hv => D _ (((Sm.rf.I 63 _ (Or.inl rfl)).I 64 v (Or.inr rfl) : Sm h _).1.SK S) ((sa.I 63 _ (Or.inl rfl)).I 64 v (Or.inr rfl)) (by simp only [zI_yI, va_upA, if_true]; exact ev) (by simp only [zI_yI, va_upA, if_true]; exact hv)
          by_cases hm : 0 < k - max s1 s2
          · have a1 : a = nI (pk l1 t1 (k - 1 - s1)) := by rw [ea, if_neg (by omega)]; exact if_pos (by omega)
            have b1 : b = nI (pk l2 t2 (k - 1 - s2)) := by rw [eb, if_neg (by omega)]; exact if_pos (by omega)
            have p3 := ok1.pk t1 (k - 1 - s1)
            have p4 := ok2.pk t2 (k - 1 - s2)
            have v1 : ovF l1 t1 s1 s2 (k - max s1 s2 - 1) = pk l1 t1 (k - 1 - s1) := by unfold ovF; rw [show s2 - s1 + (k - max s1 s2 - 1) = k - 1 - s1 by omega]
            have v2 : ovF l2 t2 s2 s1 (k - max s1 s2 - 1) = pk l2 t2 (k - 1 - s2) := by unfold ovF; rw [show s1 - s2 + (k - max s1 s2 - 1) = k - 1 - s2 by omega]
            rw [c1, c2, a1, b1] at fin ⊢
            have st : me (ovF l1 t1 s1 s2) (ovF l2 t2 s2 s1) (k - max s1 s2 + 1) = me (ovF l1 t1 s1 s2) (ovF l2 t2 s2 s1) (k - max s1 s2) + if (¬ pk l1 t1 (k - s1) = pk l1 t1 (k - 1 - s1) ∧ ¬ pk l2 t2 (k - s2) = pk l2 t2 (k - 1 - s2)) then 1 else 0 := by
              rw [me, u1, u2, v1, v2]; simp only [hm, true_and]
            by_cases r1 : pk l1 t1 (k - s1) = pk l1 t1 (k - 1 - s1)
            · refine V155c  S ?_ ?_ ?_ ?_ ?_ <;> simp (disch := omega) only [oi_l, oi_n, z_nI, nIA, nIM, nIS, nIlt, nIle, nIeq, nIC, vpI, Nat.add_sub_cancel, Nat.not_le, Nat.not_lt, Nat.not_lt_zero, Nat.le_refl, not_true_eq_false, not_false_eq_true, false_imp_iff, true_imp_iff, forall_const, implies_true, Nat.reduceEqDiff, Nat.reduceLeDiff, Nat.reduceLT, eq_true r1, e64]
              exact fin _ (by rw [st, if_neg (fun q => q.1 r1)])
            · by_cases r2 : pk l2 t2 (k - s2) = pk l2 t2 (k - 1 - s2)
              · refine V155c  S ?_ ?_ ?_ ?_ ?_ <;> simp (disch := omega) only [oi_l, oi_n, z_nI, nIA, nIM, nIS, nIlt, nIle, nIeq, nIC, vpI, Nat.add_sub_cancel, Nat.not_le, Nat.not_lt, Nat.not_lt_zero, Nat.le_refl, not_true_eq_false, not_false_eq_true, false_imp_iff, true_imp_iff, forall_const, implies_true, Nat.reduceEqDiff, Nat.reduceLeDiff, Nat.reduceLT, r1, eq_true r2, e64]
                exact fin _ (by rw [st, if_neg (fun q => q.2 r2)])
              · refine V155c  S ?_ ?_ ?_ ?_ ?_ <;> simp (disch := omega) only [oi_l, oi_n, z_nI, nIA, nIM, nIS, nIlt, nIle, nIeq, nIC, vpI, Nat.add_sub_cancel, Nat.not_le, Nat.not_lt, Nat.not_lt_zero, Nat.le_refl, not_true_eq_false, not_false_eq_true, false_imp_iff, true_imp_iff, forall_const, implies_true, Nat.reduceEqDiff, Nat.reduceLeDiff, Nat.reduceLT, r1, r2, e64]
                exact fin _ (by rw [st, if_pos ⟨r1, r2⟩])
          · have st : me (ovF l1 t1 s1 s2) (ovF l2 t2 s2 s1) (k - max s1 s2 + 1) = me (ovF l1 t1 s1 s2) (ovF l2 t2 s2 s1) (k - max s1 s2) := by
              rw [me, if_neg (fun q => hm q.1)]; rfl
            have ab : a = Int32.ofInt (-1) ∨ b = Int32.ofInt (-1) := by
              rw [ea, eb]
              by_cases k0' : k = 0
              · left; rw [if_pos k0']
              · rw [if_neg k0', if_neg k0']
                by_cases s12 : s2 ≤ s1
                · left; exact if_neg (by omega)
                · right; exact if_neg (by omega)
            rcases ab with ab | ab
            · refine V155c  S ?_ ?_ ?_ ?_ ?_ <;> simp (disch := omega) only [oi_l, oi_n, z_nI, nIA, nIM, nIS, nIlt, nIle, nIeq, nIC, vpI, Nat.add_sub_cancel, Nat.not_le, Nat.not_lt, Nat.not_lt_zero, Nat.le_refl, not_true_eq_false, not_false_eq_true, false_imp_iff, true_imp_iff, forall_const, implies_true, Nat.reduceEqDiff, Nat.reduceLeDiff, Nat.reduceLT, ab, m1lt, e64]
              rw [← ab]
              exact fin _ (by rw [st]; rfl)
            · by_cases an : a < nI 0
              · refine V155c  S ?_ ?_ ?_ ?_ ?_ <;> simp (disch := omega) only [oi_l, oi_n, z_nI, nIA, nIM, nIS, nIlt, nIle, nIeq, nIC, vpI, Nat.add_sub_cancel, Nat.not_le, Nat.not_lt, Nat.not_lt_zero, Nat.le_refl, not_true_eq_false, not_false_eq_true, false_imp_iff, true_imp_iff, forall_const, implies_true, Nat.reduceEqDiff, Nat.reduceLeDiff, Nat.reduceLT, an, e64]
                exact fin _ (by rw [st]; rfl)
              · refine V155c  S ?_ ?_ ?_ ?_ ?_ <;> simp (disch := omega) only [oi_l, oi_n, z_nI, nIA, nIM, nIS, nIlt, nIle, nIeq, nIC, vpI, Nat.add_sub_cancel, Nat.not_le, Nat.not_lt, Nat.not_lt_zero, Nat.le_refl, not_true_eq_false, not_false_eq_true, false_imp_iff, true_imp_iff, forall_const, implies_true, Nat.reduceEqDiff, Nat.reduceLeDiff, Nat.reduceLT, an, ab, m1lt, e64]
                rw [← ab]
                exact fin _ (by rw [st]; rfl)
        rw [c1, c2] at C ⊢
        by_cases hq : pk l1 t1 (k - s1) = pk l2 t2 (k - s2)
        · refine V155b  S ?_ ?_ ?_ ?_ <;> simp (disch := omega) only [oi_l, oi_n, z_nI, nIA, nIM, nIS, nIlt, nIle, nIeq, nIC, vpI, Nat.add_sub_cancel, Nat.not_le, Nat.not_lt, Nat.not_lt_zero, Nat.le_refl, not_true_eq_false, not_false_eq_true, false_imp_iff, true_imp_iff, forall_const, implies_true, Nat.reduceEqDiff, Nat.reduceLeDiff, Nat.reduceLT, eq_true hq, e63]
          exact C _ _ (by rw [nIA, al, u1, u2, if_pos hq])
        · refine V155b  S ?_ ?_ ?_ ?_ <;> simp (disch := omega) only [oi_l, oi_n, z_nI, nIA, nIM, nIS, nIlt, nIle, nIeq, nIC, vpI, Nat.add_sub_cancel, Nat.not_le, Nat.not_lt, Nat.not_lt_zero, Nat.le_refl, not_true_eq_false, not_false_eq_true, false_imp_iff, true_imp_iff, forall_const, implies_true, Nat.reduceEqDiff, Nat.reduceLeDiff, Nat.reduceLT, hq, e63]
          exact C _ _ (by rw [nIA, al, u1, u2, if_neg hq])
      · have c2 : col l2 t2 s2 k = Int32.ofInt (-1) := if_neg o2
        have hj : min (k + 1 - max s1 s2) (ovN l1.length s1 l2.length s2) = min (k - max s1 s2) (ovN l1.length s1 l2.length s2) := by unfold ovN; omega
        rw [hj] at D
        have D' := D h S sa e63 e64
        rw [c1, c2] at D' ⊢
        refine V155b  S ?_ ?_ ?_ ?_ <;> simp (disch := omega) only [oi_l, oi_n, z_nI, nIA, nIM, nIS, nIlt, nIle, nIeq, nIC, vpI, Nat.add_sub_cancel, Nat.not_le, Nat.not_lt, Nat.not_lt_zero, Nat.le_refl, not_true_eq_false, not_false_eq_true, false_imp_iff, true_imp_iff, forall_const, implies_true, Nat.reduceEqDiff, Nat.reduceLeDiff, Nat.reduceLT, m1lt]
        exact D'
    · have c1 : col l1 t1 s1 k = Int32.ofInt (-1) := if_neg o1
      have hj : min (k + 1 - max s1 s2) (ovN l1.length s1 l2.length s2) = min (k - max s1 s2) (ovN l1.length s1 l2.length s2) := by unfold ovN; omega
      rw [hj] at D
      have D' := D h S sa e63 e64
      rw [c1] at D' ⊢
      refine V155b  S ?_ ?_ ?_ ?_ <;> simp (disch := omega) only [oi_l, oi_n, z_nI, nIA, nIM, nIS, nIlt, nIle, nIeq, nIC, vpI, Nat.add_sub_cancel, Nat.not_le, Nat.not_lt, Nat.not_lt_zero, Nat.le_refl, not_true_eq_false, not_false_eq_true, false_imp_iff, true_imp_iff, forall_const, implies_true, Nat.reduceEqDiff, Nat.reduceLeDiff, Nat.reduceLT, m1lt]
      exact D'
theorem c155 {h : pm_H} {Q : Option Value → pm_H → Prop} {l1 l2 : List Nat} {t1 t2 : Bool} {i1 i2 s1 s2 : Nat} (S : SK h) (hi1 : i1 < 12) (hi2 : i2 < 12) (e38 : zI h 38 i1 = nI l1.length) (e45 : ∀ k, k < l1.length → zI h 45 (400 * i1 + k) = nI (l1.getD k 0)) (r38 : zI h 38 i2 = nI l2.length) (r45 : ∀ k, k < l2.length → zI h 45 (400 * i2 + k) = nI (l2.getD k 0)) (ok1 : okS l1) (ok2 : okS l2) (hs1 : s1 ≤ 50) (hs2 : s2 ≤ 50)
    (k0 : ∀ g, Sm h g → zI g 35 63 = nI (SA l1 t1 s1 l2 t2 s2) → zI g 35 64 = nI (SM l1 t1 s1 l2 t2 s2) → Q none g) :
    WP 155 0 [some (.ref 35), some (.int (nI i1)), some (.int (nI s1)), some (.int (bI t1)), some (.int (nI i2)), some (.int (nI s2)), some (.int (bI t2)), none, none, none, none, none] [] h Q := by
  refine V155 S ?_
  refine c155L hi1 hi2 e38 e45 r38 r45 ok1 ok2 hs1 hs2 k0 500 0 _ _ _ none none (by omega) (((Sm.rf.I 63 _ (Or.inl rfl)).I 64 _ (Or.inr rfl) : Sm h _).1.SK S) ((Sm.rf.I 63 _ (Or.inl rfl)).I 64 _ (Or.inr rfl)) ?_ ?_ rfl rfl
  · simp [zI_yI, va_upA, al]; rfl
  · simp [zI_yI, va_upA, me]; rfl

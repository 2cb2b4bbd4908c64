/-! readStrip of the model, whole -/
theorem V140A {h : pm_H} {Q : Option Value → pm_H → Prop} {d1 : Option Value} {d2 : Option Value} {d3 : Option Value} {d4 : Option Value} {d5 : Option Value} {d6 : Option Value} {d7 : Option Value} {d8 : Option Value} (S : SK h) (k2 : (¬ (zI h 35 17) = (Int32.ofInt 12)) → WP 128 0 [some (.ref 35), none] [] h (fun v1 h1 => WP 140 23 [some (.ref 35), d1, d2, d3, d4, d5, d6, d7, d8] (v1.toList ++ []) h1 Q)) (k4 : ((zI h 35 17) = (Int32.ofInt 12)) → ((zI h 35 7) ≤ 0) → Q none (yI (yI h 35 7 (Int32.ofInt 3)) 35 8 (zI h 35 10))) (k5 : ((zI h 35 17) = (Int32.ofInt 12)) → (¬ (zI h 35 7) ≤ 0) → Q none h) : WP 140 0 [some (.ref 35), d1, d2, d3, d4, d5, d6, d7, d8] [] h Q :=
  B140_0 (S.T 35) (fun c1 => B140_19 (S.T 35) (k2 c1)) (fun c1 => B140_9 (S.T 35) (B136_0 (S.T 35) (fun c3 => B136_8 (S.T 35) (B140_18 (k4 c1 c3))) (fun c3 => B136_7 (B140_18 (k5 c1 c3)))))
theorem V140B {h : pm_H} {Q : Option Value → pm_H → Prop} {d1 : Option Value} {d2 : Option Value} {d3 : Option Value} {d4 : Option Value} {d5 : Option Value} {d6 : Option Value} {d7 : Option Value} {d8 : Option Value} (S : SK h) (k1 : WP 134 0 [some (.ref 35)] [] h (fun v1 h1 => WP 140 27 [some (.ref 35), d1, d2, d3, d4, d5, d6, d7, d8] (v1.toList ++ []) h1 Q)) : WP 140 23 [some (.ref 35), d1, d2, d3, d4, d5, d6, d7, d8] [] h Q :=
  B140_23 (S.T 35) k1
theorem V140C {h : pm_H} {Q : Option Value → pm_H → Prop} {b : Int32} {d1 : Option Value} {d2 : Option Value} {d3 : Option Value} {d4 : Option Value} {d5 : Option Value} {d6 : Option Value} {d7 : Option Value} {d8 : Option Value} (S : SK h) (k2 : (¬ b = 0) → WP 140 37 [some (.ref 35), some (.int (Int32.ofInt 0)), d2, d3, d4, d5, d6, d7, d8] [] h Q) (k3 : (b = 0) → WP 137 0 [some (.ref 35)] [] h (fun v1 h1 => WP 140 34 [some (.ref 35), d1, d2, d3, d4, d5, d6, d7, d8] (v1.toList ++ []) h1 Q)) : WP 140 27 [some (.ref 35), d1, d2, d3, d4, d5, d6, d7, d8] [.int b] h Q :=
  B140_27 (fun c1 => B140_35 (k2 c1)) (fun c1 => B140_30 (S.T 35) (k3 c1))
theorem V140D {h : pm_H} {Q : Option Value → pm_H → Prop} {d1 : Option Value} {d2 : Option Value} {d3 : Option Value} {d4 : Option Value} {d5 : Option Value} {d6 : Option Value} {d7 : Option Value} {d8 : Option Value} (S : SK h) (k1 : Q none h) : WP 140 34 [some (.ref 35), d1, d2, d3, d4, d5, d6, d7, d8] [] h Q :=
  B140_34 k1
theorem V140E {h : pm_H} {Q : Option Value → pm_H → Prop} {d2 : Option Value} {d3 : Option Value} {d4 : Option Value} {d5 : Option Value} {d6 : Option Value} {d7 : Option Value} {d8 : Option Value} {k : Nat} (S : SK h) (k2 : ((zI h 35 17) ≤ (nI k)) → WP 140 75 [some (.ref 35), some (.int (nI k)), d2, d3, d4, d5, d6, d7, d8] [] h Q) (g3 : (¬ (zI h 35 17) ≤ (nI k)) → vp_in (nI k) 12) (k5 : (¬ (zI h 35 17) ≤ (nI k)) → (¬ (lg_cmp ((zI h 47 ((nI k)).toNatClampNeg)).toInt64 (zJ h 35 14)) = 0) → WP 140 37 [some (.ref 35), some (.int ((nI k) + (Int32.ofInt 1))), d2, d3, d4, d5, d6, d7, d8] [] h Q) (k7 : (¬ (zI h 35 17) ≤ (nI k)) → ((lg_cmp ((zI h 47 ((nI k)).toNatClampNeg)).toInt64 (zJ h 35 14)) = 0) → ((zI h 35 7) ≤ 0) → WP 140 37 [some (.ref 35), some (.int ((nI k) + (Int32.ofInt 1))), d2, d3, d4, d5, d6, d7, d8] [] (yI (yI h 35 7 (Int32.ofInt 5)) 35 8 (zI h 35 10)) Q) (k8 : (¬ (zI h 35 17) ≤ (nI k)) → ((lg_cmp ((zI h 47 ((nI k)).toNatClampNeg)).toInt64 (zJ h 35 14)) = 0) → (¬ (zI h 35 7) ≤ 0) → WP 140 37 [some (.ref 35), some (.int ((nI k) + (Int32.ofInt 1))), d2, d3, d4, d5, d6, d7, d8] [] h Q) : WP 140 37 [some (.ref 35), some (.int (nI k)), d2, d3, d4, d5, d6, d7, d8] [] h Q :=
  B140_37 (S.T 35) (fun c1 => k2 c1) (fun c1 => B140_45 (S.T 35) (S.R 35 29) ⟨(S.T 47), (S.bd 47 (g3 c1))⟩ (fun c4 => B140_69 (k5 c1 c4)) (fun c4 => B140_60 (S.T 35) (B136_0 (S.T 35) (fun c6 => B136_8 (S.T 35) (B140_69 (k7 c1 c4 c6))) (fun c6 => B136_7 (B140_69 (k8 c1 c4 c6))))))
theorem V140F {h : pm_H} {Q : Option Value → pm_H → Prop} {d2 : Option Value} {d3 : Option Value} {d4 : Option Value} {d5 : Option Value} {d6 : Option Value} {d7 : Option Value} {d8 : Option Value} {k : Nat} (S : SK h) (g2 : ((zI h 35 7) ≤ 0) → vp_in (zI h 35 17) 12) (k3 : ((zI h 35 7) ≤ 0) → WP 128 0 [some (.ref 35), none] [] (yI h 47 ((zI h 35 17)).toNatClampNeg ((zJ h 35 14)).toInt32) (fun v1 h1 => WP 140 101 [some (.ref 35), some (.int (nI k)), d2, d3, d4, d5, d6, d7, d8] (v1.toList ++ []) h1 Q)) (k4 : (¬ (zI h 35 7) ≤ 0) → Q none h) : WP 140 75 [some (.ref 35), some (.int (nI k)), d2, d3, d4, d5, d6, d7, d8] [] h Q :=
  B140_75 (S.T 35) (fun c1 => B140_83 (S.T 35) (S.R 35 29) ⟨(S.T 47), (S.bd 47 (g2 c1))⟩ (k3 c1)) (fun c1 => B140_82 (k4 c1))
theorem V140G {h : pm_H} {Q : Option Value → pm_H → Prop} {d2 : Option Value} {d3 : Option Value} {d4 : Option Value} {d5 : Option Value} {d6 : Option Value} {d7 : Option Value} {d8 : Option Value} {k : Nat} (S : SK h) (k1 : WP 138 0 [some (.ref 35), some (.int (Int32.ofInt 58))] [] h (fun v1 h1 => WP 140 107 [some (.ref 35), some (.int (nI k)), d2, d3, d4, d5, d6, d7, d8] (v1.toList ++ []) h1 Q)) : WP 140 101 [some (.ref 35), some (.int (nI k)), d2, d3, d4, d5, d6, d7, d8] [] h Q :=
  B140_101 (S.T 35) k1
theorem V140H {h : pm_H} {Q : Option Value → pm_H → Prop} {d2 : Option Value} {d3 : Option Value} {d4 : Option Value} {d5 : Option Value} {d6 : Option Value} {d7 : Option Value} {d8 : Option Value} {k : Nat} (S : SK h) (k2 : ((zI h 35 7) ≤ 0) → WP 140 124 [some (.ref 35), some (.int (Int32.ofInt 0)), some (.int (Int32.ofInt 0)), some (.int (Int32.ofInt 0)), some (.int (Int32.ofInt 1)), d5, d6, d7, d8] [] h Q) (k3 : (¬ (zI h 35 7) ≤ 0) → Q none h) : WP 140 107 [some (.ref 35), some (.int (nI k)), d2, d3, d4, d5, d6, d7, d8] [] h Q :=
  B140_107 (S.T 35) (fun c1 => B140_115 (k2 c1)) (fun c1 => B140_114 (k3 c1))
def LM : List Nat := [44, 46, 47, 48, 49, 50, 51, 52, 53, 54]
theorem MF.sub {L M : List Nat} {h g : pm_H} (c : MF L h g) (s : ∀ a ∈ L, a ∈ M) : MF M h g := ⟨fun a h1 h2 => c.1 a (fun q => h1 (s a q)) h2, c.2⟩
/-- the model's new book -/
def MBk (g : pm_H) (B : Bk) : Prop := I_mb B (zI g 35 17) (zI g 35 18) (zI g 47) (zI g 48) (zI g 49) (zI g 50) (zI g 51) (zI g 52) (zI g 44) (zI g 46)
theorem MBk.nm {g : pm_H} {B : Bk} (b : MBk g B) {k : Nat} (hk : k < B.1.length) : zI g 47 k = nI (nmS B.1 k + 1) := by
  have := (b.2.2.1 k hk).1
  rw [this]; unfold nmS
  rw [List.getD_eq_getElem?_getD, List.getElem?_eq_getElem hk]; rfl
theorem MBk.cnm {g : pm_H} {B : Bk} (b : MBk g B) {k : Nat} (hk : k < B.2.length) : zI g 49 k = nI (nmC B.2 k + 1) := by
  have := (b.2.2.2 k hk).1
  rw [this]; unfold nmC
  rw [List.getD_eq_getElem?_getD, List.getElem?_eq_getElem hk]; rfl
theorem MBk.T {h g : pm_H} {B : Bk} (b : MBk h B) (t : TmS h g) : MBk g B := by
  unfold MBk
  rw [t.2.1 17 (by omega), t.2.1 18 (by omega), t.1 47 (by decide), t.1 48 (by decide), t.1 49 (by decide), t.1 50 (by decide), t.1 51 (by decide), t.1 52 (by decide), t.1 44 (by decide), t.1 46 (by decide)]
  exact b
theorem I_mb.pushS {S : List BkS} {C : List BkC} {x : BkS} {m15 m16 m15' : Int32} {r37 r38 r39 r40 r41 r42 r43 r45 r37' r38' r45' : Nat → Int32} (I : I_mb (S, C) m15 m16 r37 r38 r39 r40 r41 r42 r43 r45) (hS : ∀ s ∈ S, s.2.length ≤ 400) (e15 : m15' = nI (S.length + 1)) (e37 : r37' = va_up r37 S.length (nI (x.1 + 1))) (e38 : r38' = va_up r38 S.length (nI x.2.length)) (e45 : ∀ j, j < 400 * S.length ∨ 400 * S.length + 400 ≤ j → r45' j = r45 j) (e45' : ∀ k, k < x.2.length → r45' (400 * S.length + k) = nI (x.2.getD k 0)) : I_mb (S ++ [x], C) m15' m16 r37' r38' r39 r40 r41 r42 r43 r45' := by
  obtain ⟨i1, i2, i3, i4⟩ := I
  refine ⟨by rw [e15]; simp, i2, fun s hs => ?_, i4⟩
  have hs' : s < S.length + 1 := by simpa using hs
  by_cases e : s = S.length
  · subst e
    have ex : (S ++ [x])[S.length] = x := by simp
    simp only [ex]
    rw [e37, e38, va_upA, va_upA, if_pos rfl, if_pos rfl]
    exact ⟨rfl, rfl, e45'⟩
  · have hl : s < S.length := by omega
    have ex : (S ++ [x])[s] = S[s] := by rw [List.getElem_append_left hl]
    simp only [ex]
    rw [e37, e38, va_upA, va_upA, if_neg e, if_neg e]
    obtain ⟨j1, j2, j3⟩ := i3 s hl
    refine ⟨j1, j2, fun k hk => ?_⟩
    have := hS _ (List.getElem_mem hl)
    have hk' : k < S[s].2.length := hk
    rw [e45 _ (by omega)]
    exact j3 k hk
theorem lgw {a b : Nat} (ha : a < 1000) (hb : b < 1000) : lg_cmp (nI (a + 1)).toInt64 (Int64.ofInt ((b : Int) + 1)) = 0 ↔ a = b := by
  rw [lg0, nI_64 (by omega)]
  constructor
  · intro q
    have := congrArg Int64.toInt q
    rw [Int64.toInt_ofInt_of_le (by omega) (by omega), Int64.toInt_ofInt_of_le (by omega) (by omega)] at this
    omega
  · intro q; rw [q]; rfl
set_option maxHeartbeats 4000000 in
theorem c140 {h : pm_H} {Q : Option Value → pm_H → Prop} {ch : Nat → Nat} {n i : Nat} {S : List BkS} (K : SK h) (hn : n ≤ 800) (hi : i ≤ n) (e4 : zI h 35 4 = nI n) (hch : CH h 36 ch n) (mt : MT h ch n i) (e7 : zI h 35 7 = nI 0) (mb : MBk h (S, [])) (s12 : S.length ≤ 12) (hS : ∀ s ∈ S, s.1 < 26 ∧ s.2.length ≤ 400)
    (kb : ∀ k p, rdS ch n S i (tnx ch n i) (tnx ch n (tnx ch n i)) = .inl (k, p) → ∀ g, MF LM h g → zI g 35 7 = nI k → zI g 35 8 = nI p → 1 ≤ k → Q none g)
    (k0 : ∀ i' s, rdS ch n S i (tnx ch n i) (tnx ch n (tnx ch n i)) = (if isg ch n 59 i' then .inr (tnx ch n i', s) else .inl (wrg ch n i')) → i' ≤ n → ∀ g, MF LM h g → MT g ch n i' → zI g 35 7 = nI 0 → MBk g (S ++ [s], []) → s.2.length ≤ 400 → (∀ j, s.2.getD j 0 < 8) → Q none g) : WP 140 0 [some (.ref 35), none, none, none, none, none, none, none, none] [] h Q := by
  have nb := tnx_b (ch := ch) hi
  have pb := tpl_b (ch := ch) hi
  have nb2 := tnx_b (ch := ch) nb.2.1
  have pb2 := tpl_b (ch := ch) nb.2.1
  have nb3 := tnx_b (ch := ch) nb2.2.1
  have pb3 := tpl_b (ch := ch) nb2.2.1
  have e17 : zI h 35 17 = nI S.length := mb.1
  have m10 := mt.2.1
  by_cases full : S.length = 12
  · have k' := kb 3 (tpl ch n i) (by unfold rdS; rw [if_pos (by omega)]) (yI (yI h 35 7 (nI 3)) 35 8 (nI (tpl ch n i))) ((MF.rf.F 7 _ (by omega)).F 8 _ (by omega)) (by simp [zI_yI, va_upA]) (by simp [zI_yI, va_upA]) (by decide)
    refine V140A  K ?_ ?_ ?_ <;> simp (disch := omega) only [oi_l, oi_n, z_nI, nIA, nIM, nIS, nIlt, nIle, nIeq, nIC, vpI, Nat.add_sub_cancel, Nat.not_le, Nat.not_lt, Nat.not_lt_zero, Nat.le_refl, not_true_eq_false, not_false_eq_true, false_imp_iff, true_imp_iff, forall_const, implies_true, Nat.reduceEqDiff, Nat.reduceLeDiff, Nat.reduceLT, e17, e7, m10, eq_true full] <;> first | omega | exact k'
  have nxt : ∀ (g1 : pm_H) j Q', MF LM h g1 → j ≤ n → MT g1 ch n j → (∀ g2, TmS g1 g2 → MF LM h g2 → MT g2 ch n (tnx ch n j) → Q' none g2) → WP 128 0 [some (.ref 35), none] [] g1 Q' := fun g1 j Q' m1 hj mt1 k => c128 (m1.SK K) hn (tnx_b (ch := ch) hj).2.1 (by rw [m1.2.1 4 (by omega) (by omega) (by omega)]; exact e4) mt1.2.2.1 (hch.keep (m1.1 36 (by decide) (by decide))) (fun g2 t2 a9 a10 a11 a12 a13 => k g2 t2 (m1.tr (MF.T t2)) ⟨a9, a10, a11, a12, a13⟩)
  have A' : WP 128 0 [some (.ref 35), none] [] h (fun v1 h1 => WP 140 23 [some (.ref 35), none, none, none, none, none, none, none, none] (v1.toList ++ []) h1 Q) := by
    refine nxt h i _ MF.rf hi mt (fun g1 t1 m1 mt1 => ?_)
    have S1 := m1.SK K
    have q7 : zI g1 35 7 = nI 0 := by rw [t1.2.1 7 (by omega)]; exact e7
    have mb1 := mb.T t1
    refine V140B S1 (c134 S1 mt1 hn ?_)
    by_cases nm : isN ch n (tnx ch n i)
    · rw [if_pos nm]
      have zw := w8 mt1 nm.1 nm.2
      have q17 : zI g1 35 17 = nI S.length := mb1.1
      have rn : ∀ k, k < S.length → nmS S k < 26 ∧ zI g1 47 k = nI (nmS S k + 1) := fun k hk => by
        refine ⟨?_, mb1.nm hk⟩
        have := (hS _ (List.getElem_mem hk)).1
        unfold nmS
        rw [List.getD_eq_getElem?_getD, List.getElem?_eq_getElem hk]; exact this
      have r10 := mt1.2.1
      -- a name that is there already
      have F : fnd (nmS S) (tvl ch n (tnx ch n i)) S.length ≠ none → ∀ r k, k + r = S.length → WP 140 37 [some (.ref 35), some (.int (nI k)), none, none, none, none, none, none, none] [] (yI (yI g1 35 7 (nI 5)) 35 8 (nI (tpl ch n (tnx ch n i)))) Q := by
        intro ne r
        have e5 : rdS ch n S i (tnx ch n i) (tnx ch n (tnx ch n i)) = .inl (5, tpl ch n (tnx ch n i)) := by
          unfold rdS; rw [if_neg (by omega), if_neg (fun q => q nm), if_pos ne]
        have m2 : MF LM h (yI (yI g1 35 7 (nI 5)) 35 8 (nI (tpl ch n (tnx ch n i)))) := (m1.F 7 _ (by omega)).F 8 _ (by omega)
        have b7 : zI (yI (yI g1 35 7 (nI 5)) 35 8 (nI (tpl ch n (tnx ch n i)))) 35 7 = nI 5 := by simp [zI_yI, va_upA]
        have b8 : zI (yI (yI g1 35 7 (nI 5)) 35 8 (nI (tpl ch n (tnx ch n i)))) 35 8 = nI (tpl ch n (tnx ch n i)) := by simp [zI_yI, va_upA]
        have x17 : zI (yI (yI g1 35 7 (nI 5)) 35 8 (nI (tpl ch n (tnx ch n i)))) 35 17 = nI S.length := by simp [zI_yI, va_upA, q17]
        obtain ⟨gf, egf⟩ : ∃ gf, gf = yI (yI g1 35 7 (nI 5)) 35 8 (nI (tpl ch n (tnx ch n i))) := ⟨_, rfl⟩
        rw [← egf] at m2 b7 b8 x17 ⊢
        induction r with
        | zero =>
          intro k hk
          obtain rfl : k = S.length := by omega
          have k' := kb 5 _ e5 gf m2 b7 b8 (by decide)
          have F' : WP 140 75 [some (.ref 35), some (.int (nI S.length)), none, none, none, none, none, none, none] [] gf Q := by
            refine V140F  (m2.SK K) ?_ ?_ ?_ <;> simp (disch := omega) only [oi_l, oi_n, z_nI, nIA, nIM, nIS, nIlt, nIle, nIeq, nIC, vpI, Nat.add_sub_cancel, Nat.not_le, Nat.not_lt, Nat.not_lt_zero, Nat.le_refl, not_true_eq_false, not_false_eq_true, false_imp_iff, true_imp_iff, forall_const, implies_true, Nat.reduceEqDiff, Nat.reduceLeDiff, Nat.reduceLT, b7] <;> first | omega | exact k'
          refine V140E  (m2.SK K) ?_ ?_ ?_ ?_ ?_ <;> simp (disch := omega) only [oi_l, oi_n, z_nI, nIA, nIM, nIS, nIlt, nIle, nIeq, nIC, vpI, Nat.add_sub_cancel, Nat.not_le, Nat.not_lt, Nat.not_lt_zero, Nat.le_refl, not_true_eq_false, not_false_eq_true, false_imp_iff, true_imp_iff, forall_const, implies_true, Nat.reduceEqDiff, Nat.reduceLeDiff, Nat.reduceLT, x17, b7] <;> first | omega | exact F'
        | succ r ih =>
          intro k hk
          have I' := ih (k + 1) (by omega)
          refine V140E  (m2.SK K) ?_ ?_ ?_ ?_ ?_ <;> simp (disch := omega) only [oi_l, oi_n, z_nI, nIA, nIM, nIS, nIlt, nIle, nIeq, nIC, vpI, Nat.add_sub_cancel, Nat.not_le, Nat.not_lt, Nat.not_lt_zero, Nat.le_refl, not_true_eq_false, not_false_eq_true, false_imp_iff, true_imp_iff, forall_const, implies_true, Nat.reduceEqDiff, Nat.reduceLeDiff, Nat.reduceLT, x17, b7, show ¬ S.length ≤ k by omega] <;> first | omega | exact I' | exact fun _ => I'
      have L : ∀ r k, k + r = S.length → (∀ j, j < k → ¬ nmS S j = tvl ch n (tnx ch n i)) → WP 140 37 [some (.ref 35), some (.int (nI k)), none, none, none, none, none, none, none] [] g1 Q := by
        intro r
        induction r with
        | zero =>
          intro k hk no
          obtain rfl : k = S.length := by omega
          have fn : fnd (nmS S) (tvl ch n (tnx ch n i)) S.length = none := (fnd_n _).mpr no
          have ew : (zJ g1 35 14).toInt32 = nI (tvl ch n (tnx ch n i) + 1) := by
            rw [zw, t64, ← oi_n]; exact congrArg Int32.ofInt (by omega)
          have mA : MF LM h (yI g1 47 S.length (nI (tvl ch n (tnx ch n i) + 1))) := m1.I 47 _ _ (by decide) (by decide)
          have mtA : MT (yI g1 47 S.length (nI (tvl ch n (tnx ch n i) + 1))) ch n (tnx ch n i) := mt1.keep (fun k _ _ => by simp only [zI_yI, Nat.reduceEqDiff, if_false]) rfl
          have G' : WP 128 0 [some (.ref 35), none] [] (yI g1 47 S.length (nI (tvl ch n (tnx ch n i) + 1))) (fun v1 h1 => WP 140 101 [some (.ref 35), some (.int (nI S.length)), none, none, none, none, none, none, none] (v1.toList ++ []) h1 Q) := by
            refine nxt _ _ _ mA nb.2.1 mtA (fun g2 t2 m2 mt2 => ?_)
            have y7 : zI g2 35 7 = nI 0 := by rw [t2.2.1 7 (by omega)]; simp only [zI_yI, Nat.reduceEqDiff, if_false]; exact q7
            refine V140G (m2.SK K) (c138 (c := 58) (by decide) (m2.SK K) hn nb2.2.1 (by rw [m2.2.1 4 (by omega) (by omega) (by omega)]; exact e4) mt2 y7 (hch.keep (m2.1 36 (by decide) (by decide))) (fun q g3 m3 b7 b8 => ?_) (fun q g3 t3 mt3 => ?_))
            · have m3' : MF LM h g3 := m2.tr (m3.sub (by simp))
              have csb := cs1_b (ch := ch) (n := n) (i := tnx ch n (tnx ch n i))
              have k' := kb _ _ (by unfold rdS; rw [if_neg (by omega), if_neg (fun q => q nm), if_neg (fun q => q fn), if_pos q]) g3 m3' b7 b8 csb.1
              refine V140H  (m3'.SK K) ?_ ?_ <;> simp (disch := omega) only [oi_l, oi_n, z_nI, nIA, nIM, nIS, nIlt, nIle, nIeq, nIC, vpI, Nat.add_sub_cancel, Nat.not_le, Nat.not_lt, Nat.not_lt_zero, Nat.le_refl, not_true_eq_false, not_false_eq_true, false_imp_iff, true_imp_iff, forall_const, implies_true, Nat.reduceEqDiff, Nat.reduceLeDiff, Nat.reduceLT, b7, Nat.le_zero, show ¬ cs1 ch n (tnx ch n (tnx ch n i)) = 0 by omega] <;> first | omega | exact k'
            · have m3 : MF LM h g3 := m2.tr (MF.T t3)
              have z7 : zI g3 35 7 = nI 0 := by rw [t3.2.1 7 (by omega)]; exact y7
              have er : ∀ a, a ≠ 35 → a ≠ 47 → zI g3 a = zI g1 a := fun a h1 h2 => by
                rw [t3.1 a h1, t2.1 a h1, zI_yI, if_neg h2]
              have e47 : zI g3 47 = va_up (zI g1 47) S.length (nI (tvl ch n (tnx ch n i) + 1)) := by
                rw [t3.1 47 (by decide), t2.1 47 (by decide), zI_yI, if_pos rfl]
              have z17 : zI g3 35 17 = nI S.length := by rw [t3.2.1 17 (by omega), t2.2.1 17 (by omega)]; simp only [zI_yI, Nat.reduceEqDiff, if_false]; exact q17
              have z18 : zI g3 35 18 = zI g1 35 18 := by rw [t3.2.1 18 (by omega), t2.2.1 18 (by omega)]; simp only [zI_yI, Nat.reduceEqDiff, if_false]
              have rq : ∀ r, pcs ch n (n + 1) (tnx ch n (tnx ch n (tnx ch n i))) [] [] false = r → rdS ch n S i (tnx ch n i) (tnx ch n (tnx ch n i)) = match r with | .inl f => .inl f | .inr (j, l) => .inr (j, (tvl ch n (tnx ch n i), l)) := fun r er => by
                unfold rdS; rw [if_neg (by omega), if_neg (fun q => q nm), if_neg (fun q => q fn), if_neg (fun z => z q), er]
                rcases r with f | ⟨j, l⟩ <;> rfl
              have Z' : ∀ d5 d6 d7 d8, WP 140 124 [some (.ref 35), some (.int (nI 0)), some (.int (nI 0)), some (.int (nI 0)), some (.int (nI 1)), d5, d6, d7, d8] [] g3 Q := fun d5 d6 d7 d8 => by
                refine m140L (s := S.length) (m3.SK K) hn (by omega) (by rw [m3.2.1 4 (by omega) (by omega) (by omega)]; exact e4) (hch.keep (m3.1 36 (by decide) (by decide))) (n + 1) (tnx ch n (tnx ch n (tnx ch n i))) [] [] false g3 d5 d6 d7 d8 (nI 0) (by omega) nb3.2.1 MF.rf F46.rf rfl mt3 z7 ⟨z17, by decide, fun j hj => absurd hj (Nat.not_lt_zero _), fun j => by simp, by decide, fun d hd => absurd hd (Nat.not_lt_zero _)⟩ trivial rfl (fun k p e g4 m4 _ b7 b8 hk => ?_) (fun i' l' e hi' g4 m4 f46 e48 mt4 b7 b17 mp l4 l8 => ?_)
                · exact kb k p (by rw [rq _ e]) g4 (m3.tr (m4.sub (by decide))) b7 b8 hk
                · refine k0 i' (tvl ch n (tnx ch n i), l') ?_ hi' g4 (m3.tr (m4.sub (by decide))) mt4 b7 ?_ l4 l8
                  · rw [rq _ e]
                    by_cases sg : isg ch n 59 i'
                    · rw [if_pos sg, if_pos sg]
                    · rw [if_neg sg, if_neg sg]
                  · have b18 : zI g4 35 18 = zI g1 35 18 := by rw [m4.2.1 18 (by omega) (by omega) (by omega)]; exact z18
                    unfold MBk
                    rw [b18, m4.1 47 (by decide) (by decide), m4.1 49 (by decide) (by decide), m4.1 50 (by decide) (by decide), m4.1 51 (by decide) (by decide), m4.1 52 (by decide) (by decide), m4.1 44 (by decide) (by decide), er 49 (by decide) (by decide), er 50 (by decide) (by decide), er 51 (by decide) (by decide), er 52 (by decide) (by decide), er 44 (by decide) (by decide)]
                    exact I_mb.pushS mb1 (fun s hs => (hS s hs).2) b17 e47 (by rw [e48, er 48 (by decide) (by decide)]) (fun j hj => by rw [f46 j hj, er 46 (by decide) (by decide)]) mp
              refine V140H  (m3.SK K) ?_ ?_ <;> simp (disch := omega) only [oi_l, oi_n, z_nI, nIA, nIM, nIS, nIlt, nIle, nIeq, nIC, vpI, Nat.add_sub_cancel, Nat.not_le, Nat.not_lt, Nat.not_lt_zero, Nat.le_refl, not_true_eq_false, not_false_eq_true, false_imp_iff, true_imp_iff, forall_const, implies_true, Nat.reduceEqDiff, Nat.reduceLeDiff, Nat.reduceLT, z7] <;> first | omega | exact Z' _ _ _ _
          have E' : WP 140 75 [some (.ref 35), some (.int (nI S.length)), none, none, none, none, none, none, none] [] g1 Q := by
            refine V140F  S1 ?_ ?_ ?_ <;> simp (disch := omega) only [oi_l, oi_n, z_nI, nIA, nIM, nIS, nIlt, nIle, nIeq, nIC, vpI, Nat.add_sub_cancel, Nat.not_le, Nat.not_lt, Nat.not_lt_zero, Nat.le_refl, not_true_eq_false, not_false_eq_true, false_imp_iff, true_imp_iff, forall_const, implies_true, Nat.reduceEqDiff, Nat.reduceLeDiff, Nat.reduceLT, q7, q17, ew] <;> first | omega | exact G'
          refine V140E  S1 ?_ ?_ ?_ ?_ ?_ <;> simp (disch := omega) only [oi_l, oi_n, z_nI, nIA, nIM, nIS, nIlt, nIle, nIeq, nIC, vpI, Nat.add_sub_cancel, Nat.not_le, Nat.not_lt, Nat.not_lt_zero, Nat.le_refl, not_true_eq_false, not_false_eq_true, false_imp_iff, true_imp_iff, forall_const, implies_true, Nat.reduceEqDiff, Nat.reduceLeDiff, Nat.reduceLT, q17, q7] <;> first | omega | exact E'
        | succ r ih =>
          intro k hk no
          obtain ⟨n1, n2⟩ := rn k (by omega)
          by_cases ek : nmS S k = tvl ch n (tnx ch n i)
          · have F' := F (fun q => (fnd_n _).mp q k (by omega) ek) r (k + 1) (by omega)
            have lg : lg_cmp (nI (nmS S k + 1)).toInt64 (zJ g1 35 14) = 0 := by rw [zw]; exact (lgw (by omega) (by omega)).mpr ek
            refine V140E  S1 ?_ ?_ ?_ ?_ ?_ <;> simp (disch := omega) only [oi_l, oi_n, z_nI, nIA, nIM, nIS, nIlt, nIle, nIeq, nIC, vpI, Nat.add_sub_cancel, Nat.not_le, Nat.not_lt, Nat.not_lt_zero, Nat.le_refl, not_true_eq_false, not_false_eq_true, false_imp_iff, true_imp_iff, forall_const, implies_true, Nat.reduceEqDiff, Nat.reduceLeDiff, Nat.reduceLT, q17, q7, n2, lg, r10, show ¬ S.length ≤ k by omega] <;> first | omega | exact F'
          · have I' := ih (k + 1) (by omega) (fun j hj => by
              by_cases ej : j = k
              · rw [ej]; exact ek
              · exact no j (by omega))
            have lg : ¬ lg_cmp (nI (nmS S k + 1)).toInt64 (zJ g1 35 14) = nI 0 := by rw [zw]; exact fun q => ek ((lgw (by omega) (by omega)).mp q)
            refine V140E  S1 ?_ ?_ ?_ ?_ ?_ <;> simp (disch := omega) only [oi_l, oi_n, z_nI, nIA, nIM, nIS, nIlt, nIle, nIeq, nIC, vpI, Nat.add_sub_cancel, Nat.not_le, Nat.not_lt, Nat.not_lt_zero, Nat.le_refl, not_true_eq_false, not_false_eq_true, false_imp_iff, true_imp_iff, forall_const, implies_true, Nat.reduceEqDiff, Nat.reduceLeDiff, Nat.reduceLT, q17, q7, n2, lg, show ¬ S.length ≤ k by omega] <;> first | omega | exact I'
      have L' := L _ 0 (Nat.zero_add _) (fun j hj => absurd hj (Nat.not_lt_zero _))
      refine V140C  S1 ?_ ?_ <;> simp (disch := omega) only [oi_l, oi_n, z_nI, nIA, nIM, nIS, nIlt, nIle, nIeq, nIC, vpI, Nat.add_sub_cancel, Nat.not_le, Nat.not_lt, Nat.not_lt_zero, Nat.le_refl, not_true_eq_false, not_false_eq_true, false_imp_iff, true_imp_iff, forall_const, implies_true, Nat.reduceEqDiff, Nat.reduceLeDiff, Nat.reduceLT] <;> first | omega | exact L'
    · rw [if_neg nm]
      have C' : WP 137 0 [some (.ref 35)] [] g1 (fun v1 h1 => WP 140 34 [some (.ref 35), none, none, none, none, none, none, none, none] (v1.toList ++ []) h1 Q) := c137 S1 mt1 q7 (fun g2 m2 _ _ b7 b8' => V140D (m2.SK S1) (kb _ _ (by unfold rdS; rw [if_neg (by omega), if_pos nm]) g2 (m1.tr (m2.sub (by simp))) b7 b8' cs1_b.1))
      refine V140C  S1 ?_ ?_ <;> simp (disch := omega) only [oi_l, oi_n, z_nI, nIA, nIM, nIS, nIlt, nIle, nIeq, nIC, vpI, Nat.add_sub_cancel, Nat.not_le, Nat.not_lt, Nat.not_lt_zero, Nat.le_refl, not_true_eq_false, not_false_eq_true, false_imp_iff, true_imp_iff, forall_const, implies_true, Nat.reduceEqDiff, Nat.reduceLeDiff, Nat.reduceLT] <;> first | omega | exact C'
  refine V140A  K ?_ ?_ ?_ <;> simp (disch := omega) only [oi_l, oi_n, z_nI, nIA, nIM, nIS, nIlt, nIle, nIeq, nIC, vpI, Nat.add_sub_cancel, Nat.not_le, Nat.not_lt, Nat.not_lt_zero, Nat.le_refl, not_true_eq_false, not_false_eq_true, false_imp_iff, true_imp_iff, forall_const, implies_true, Nat.reduceEqDiff, Nat.reduceLeDiff, Nat.reduceLT, e17, full] <;> first | omega | exact A'

/-! load: the pair -/
theorem V87 {h : pm_H} {Q : Option Value → pm_H → Prop} {n : Int32} {d2 : Option Value} (S : SK h) (k2 : (n < 0) → Q (some (.int (Int32.ofInt (-1)))) (yI h 0 0 (Int32.ofInt 2))) (k4 : (¬ n < 0) → (n ≤ (zI h 2 1)) → WP 32 0 [some (.ref 1), some (.int n), none, none, none] [] h (fun v1 h1 => WP 87 32 [some (.ref 0), some (.int n), d2] (v1.toList ++ []) h1 Q)) (k5 : (¬ n < 0) → (¬ n ≤ (zI h 2 1)) → Q (some (.int (Int32.ofInt (-1)))) (yI h 0 0 (Int32.ofInt 2))) : WP 87 0 [some (.ref 0), some (.int n), d2] [] h Q :=
  B87_0 (fun c1 => B87_18 (S.T 0) (B107_0 (S.T 0) (B87_23 (k2 c1)))) (fun c1 => B87_4 (S.T 0) (S.R 0 1) (S.T 1) (S.R 1 0) (S.T 2) (fun c3 => B87_24 (S.T 0) (S.R 0 1) (S.T 1) (k4 c1 c3)) (fun c3 => B87_18 (S.T 0) (B107_0 (S.T 0) (B87_23 (k5 c1 c3)))))
theorem V87n {h : pm_H} {Q : Option Value → pm_H → Prop} {d2 : Option Value} {n : Nat} (S : SK h) (k1 : Q (some (.int (Int32.ofInt (-1)))) (yI h 0 0 (Int32.ofInt 4))) : WP 87 32 [some (.ref 0), some (.int (nI n)), d2] [.null] h Q :=
  B87_32n (B87_37 (S.T 0) (B107_0 (S.T 0) (B87_42 k1)))
theorem by255 : ∀ k : Fin 128, (Int32.ofInt ((k.val : Int) - 128) &&& nI 255) = nI (k.val + 128) := by decide +kernel
def chZ (r : Nat → Int32) (j : Nat) : Nat := ((r j).toInt % 256).toNat
theorem byte_b {x : Int32} (h : x.toInt8.toInt32 = x) : -128 ≤ x.toInt ∧ x.toInt < 128 := by
  have e : x.toInt = x.toInt8.toInt := by rw [← Int8.toInt_toInt32, h]
  have h1 := Int8.toInt_lt x.toInt8
  have h2 := Int8.le_toInt x.toInt8
  omega
theorem CH_of {g : pm_H} {r : Nat → Int32} {row n : Nat} (e : ∀ j, j < n → zI g row j = r j ∧ (r j).toInt8.toInt32 = r j) : CH g row (chZ r) n := fun j hj => by
  obtain ⟨e1, e2⟩ := e j hj
  have bb := byte_b e2
  rw [e1]
  unfold chZ
  by_cases ng : (r j).toInt < 0
  · right
    have em : ((r j).toInt % 256).toNat = ((r j).toInt + 256).toNat := by omega
    rw [em]
    refine ⟨by omega, by omega, lt_z.mpr ng, ?_⟩
    have := by255 ⟨((r j).toInt + 128).toNat, by omega⟩
    simp only at this
    rw [show (((r j).toInt + 128).toNat : Int) - 128 = (r j).toInt by omega, Int32.ofInt_toInt] at this
    rw [this, show ((r j).toInt + 128).toNat + 128 = ((r j).toInt + 256).toNat by omega]
  · left
    have em : ((r j).toInt % 256).toNat = (r j).toInt.toNat := by omega
    rw [em]
    refine ⟨by omega, ?_⟩
    apply Int32.toInt_inj.mp
    rw [nI_i (by omega)]
    omega
theorem INV.ld {h g : pm_H} (I : INV h) (K : SK g) (rows : ∀ a, a ∈ ([16, 20, 21, 22, 27, 28, 29, 30, 31, 32, 34, 55, 56, 57, 58, 59, 60, 61, 62] : List Nat) → zI g a = zI h a) (f0 : ∀ k, k ≠ 0 → zI g 0 k = zI h 0 k) (f35 : ∀ k, 19 ≤ k → zI g 35 k = zI h 35 k) (st : zI g 0 0 = zI g 35 0) (e1 : zI g 1 1 = zI g 35 5) (e2 : zI g 1 2 = zI g 35 6) (t1 : zI g 2 1 = nI 0) (t3 : zI g 35 3 = nI 0) (c5 : C5 g) (bk : ∃ B, bk_ok B ∧ I_cb g B ∧ I_mb B (zI g 35 15) (zI g 35 16) (zI g 37) (zI g 38) (zI g 39) (zI g 40) (zI g 41) (zI g 42) (zI g 43) (zI g 45)) : INV g := by
  obtain ⟨S, n1, i1, i2, i3, i4, i5, -⟩ := I
  refine ⟨K, ?_, ?_, ?_, ?_, ⟨0, by decide, t1, t3, fun j hj => absurd hj (Nat.not_lt_zero _)⟩, ⟨c5, ?_⟩, bk⟩
  · obtain ⟨m1, m2, m3, m4, m5, m6, m7⟩ := n1
    rw [f0 11 (by decide), f0 12 (by decide), f35 37 (by decide), f35 38 (by decide)]
    exact ⟨st, m2, m3, m4, m5, e1, e2⟩
  · rw [f0 10 (by decide), f35 49 (by decide), rows 34 (by decide), rows 62 (by decide)]; exact i1
  · rw [rows 20 (by decide), f35 39 (by decide), rows 21 (by decide), rows 22 (by decide), rows 55 (by decide), rows 56 (by decide)]; exact i2
  · rw [rows 27 (by decide), f35 42 (by decide), rows 28 (by decide), rows 29 (by decide), rows 30 (by decide), rows 31 (by decide), rows 32 (by decide), rows 57 (by decide), rows 58 (by decide), rows 59 (by decide), rows 60 (by decide), rows 61 (by decide)]; exact i3
  · rw [rows 16 (by decide)]; exact i5.2
/-- what the class's load leaves -/
def FC (h g : pm_H) : Prop := (∀ a, a < zn h → a ∉ ([0, 1, 2, 4, 5, 6, 7] : List Nat) → zI g a = zI h a) ∧ (∀ k, k ≠ 0 → zI g 0 k = zI h 0 k) ∧ (∀ a, a < zn h → zT g a = zT h a ∧ zN g a = zN h a ∧ (a ≠ 0 → zR g a = zR h a)) ∧ zn h ≤ zn g ∧ zn g ≤ zn h + 123 ∧ zk g ≤ zk h + 10036 ∧ SK g ∧ C5 g ∧ zI g 2 1 = nI 0
theorem SK.R0 {h : pm_H} (s : SK h) (v : Option Nat) : SK (yR h 0 2 v) := by
  refine ⟨s.1, s.2.1, fun a k hk => ?_, s.2.2.2⟩
  rw [zR_yR]
  by_cases ha : a = 0
  · subst ha
    rw [if_pos rfl, va_upA]
    by_cases k2 : k = 2
    · subst k2; cases hk
    · rw [if_neg k2]; exact s.2.2.1 0 k hk
  · rw [if_neg ha]; exact s.2.2.1 a k hk
theorem yR_id {h : pm_H} {a k : Nat} {v : Option Nat} (e : v = zR h a k) : yR h a k v = h := by
  subst e
  unfold yR yB
  have : va_up h.2.2.2.2.2.1 a (va_up (zR h a) k (zR h a k)) = h.2.2.2.2.2.1 := by
    funext b
    rw [va_upA]
    by_cases q : b = a
    · rw [if_pos q, q]
      funext j
      rw [va_upA]
      by_cases q2 : j = k
      · rw [if_pos q2, q2]; rfl
      · rw [if_neg q2]; rfl
    · rw [if_neg q]
  rw [this]
theorem atB.keepW {h g : pm_H} {b : Nat} {B : Bk} (hd : ∀ a, dyn h a → zT g a = zT h a ∧ zN g a = zN h a ∧ zI g a = zI h a ∧ zR g a = zR h a) (hn : zn h ≤ zn g) (k : atB h b B) : atB g b B := by
  obtain ⟨k1, k2, k3, k4, sa, ca, k5, k6, k7, k8, k9, k10, k11, k12, k13, k14⟩ := k
  obtain ⟨a1, a2, a3, a4⟩ := hd b k1
  obtain ⟨b1, b2, b3, b4⟩ := hd sa k6
  obtain ⟨c1, c2, c3, c4⟩ := hd ca k10
  have up : ∀ a, dyn h a → dyn g a := fun a d => ⟨d.1, Nat.lt_of_lt_of_le d.2 hn⟩
  refine ⟨up _ k1, by rw [a1]; exact k2, by rw [a3]; exact k3, by rw [a3]; exact k4, sa, ca, by rw [a4]; exact k5, up _ k6, by rw [b1]; exact k7, by rw [b2]; exact k8, by rw [a4]; exact k9, up _ k10, by rw [c1]; exact k11, by rw [c2]; exact k12, fun s hs => ?_, fun c hc => ?_⟩
  · obtain ⟨p, q1, q2⟩ := k13 s hs
    exact ⟨p, by rw [b4]; exact q1, q2.keepX (K := 104) (by decide) (fun a d _ _ => hd a d) hn⟩
  · obtain ⟨q, q1, q2⟩ := k14 c hc
    exact ⟨q, by rw [c4]; exact q1, q2.keepX (K := 104) rfl (fun a d _ _ => hd a d) hn k6 k7⟩
set_option maxHeartbeats 2000000 in
theorem c87 {h : pm_H} {Q : Option Value → pm_H → Prop} {ch : Nat → Nat} {m n0 : Nat} (K : SK h) (c5 : C5 h) (e1 : zI h 2 1 = nI n0) (hn0 : n0 ≤ 800) (hm : m ≤ n0) (hch : CH h 3 ch m)
    (kb : ∀ k p, rdB ch m (m + 1) 0 [] [] = .inl (k, p) → ∀ g, FC h g → zR g 0 = zR h 0 → zI g 0 0 = nI 4 → zI g 1 1 = nI k → zI g 1 2 = nI p → Q (some (.int (Int32.ofInt (-1)))) g)
    (k0 : ∀ S C, rdB ch m (m + 1) 0 [] [] = .inr (S, C) → ∀ g, FC h g → zI g 0 0 = nI 0 → zI g 1 1 = nI 0 → zI g 1 2 = Int32.ofInt (-1) → I_cb g (S, C) → bk_ok (S, C) → Q (some (.int (nI S.length))) g) : WP 87 0 [some (.ref 0), some (.int (nI m)), none] [] h Q := by
  have z76 := K.2.2.2
  have em : mnI (nI m) (nI n0) = nI m := by
    unfold mnI
    by_cases q : nI n0 < nI m
    · rw [nIlt (by omega) (by omega)] at q; omega
    · rw [if_neg q]
  have s1 : Same [1, 2] h (yI (yI (yI (yI h 2 2 (nI m)) 2 3 (Int32.ofInt 0)) 1 1 (Int32.ofInt 0)) 1 2 (Int32.ofInt (-1))) := (((Same.rf.I 2 _ _ (by decide)).I 2 _ _ (by decide)).I 1 _ _ (by decide)).I 1 _ _ (by decide)
  have u22 : zI (yI (yI (yI (yI h 2 2 (nI m)) 2 3 (Int32.ofInt 0)) 1 1 (Int32.ofInt 0)) 1 2 (Int32.ofInt (-1))) 2 2 = nI m := by simp [zI_yI, va_upA]
  have u23 : zI (yI (yI (yI (yI h 2 2 (nI m)) 2 3 (Int32.ofInt 0)) 1 1 (Int32.ofInt 0)) 1 2 (Int32.ofInt (-1))) 2 3 = nI 0 := by simp [zI_yI, va_upA]; rfl
  have u11 : zI (yI (yI (yI (yI h 2 2 (nI m)) 2 3 (Int32.ofInt 0)) 1 1 (Int32.ofInt 0)) 1 2 (Int32.ofInt (-1))) 1 1 = nI 0 := by simp [zI_yI, va_upA]; rfl
  have u12 : zI (yI (yI (yI (yI h 2 2 (nI m)) 2 3 (Int32.ofInt 0)) 1 1 (Int32.ofInt 0)) 1 2 (Int32.ofInt (-1))) 1 2 = Int32.ofInt (-1) := by simp [zI_yI, va_upA]
  have W : WP 32 0 [some (.ref 1), some (.int (nI m)), none, none, none] [] h (fun v1 h1 => WP 87 32 [some (.ref 0), some (.int (nI m)), none] (v1.toList ++ []) h1 Q) := by
    refine V32 K ?_
    rw [e1, em]
    refine B32_8 (K.T 1) ?_
    obtain ⟨g1, eg1⟩ : ∃ g1, g1 = yI (yI (yI (yI h 2 2 (nI m)) 2 3 (Int32.ofInt 0)) 1 1 (Int32.ofInt 0)) 1 2 (Int32.ofInt (-1)) := ⟨_, rfl⟩
    rw [← eg1] at s1 u22 u23 u11 u12 ⊢
    have K1 := s1.SK K
    have zg1 : zn g1 = zn h := s1.2.2.2.2.2.1
    have zk1 : zk g1 = zk h := s1.2.2.2.2.2.2
    have ez : zn (yI (yI h 2 2 (nI m)) 2 3 (Int32.ofInt 0)) = zn g1 := by rw [zg1, zn_yI, zn_yI]
    rw [ez]
    refine c12 K1 (fun g2 f2 zg2 zk2 hb2 r0 r2 => ?_)
    have K2 := f2.SK K1
    refine V32a K2 ?_
    have q2 : zI g2 2 = zI g1 2 := (f2.1 2 (by omega)).2.2.1
    have q1 : zI g2 1 = zI g1 1 := (f2.1 1 (by omega)).2.2.1
    have bo0 : bk_ok ([], []) := ⟨by decide, by decide, fun s hs => absurd hs List.not_mem_nil, fun s hs => absurd hs List.not_mem_nil⟩
    -- the frame, whole
    have fr : ∀ g, Lw (zn g1) g2 g → C5 g → zn g ≤ zn g2 + 120 → zk g ≤ zk g2 + 10014 → ∀ v st, FC h (yI (yR (yI g 2 1 (nI 0)) 0 2 v) 0 0 st) := fun g l c5g z zk' v st => by
      have Kg := l.SK (by omega) K2
      have zz := l.2.2.2
      refine ⟨fun a ha hn => ?_, fun k hk => ?_, fun a ha => ?_, ?_, ?_, ?_, (SK.R0 Kg v), ?_, ?_⟩
      · have n0 : a ≠ 0 := fun e => hn (by rw [e]; decide)
        have n2 : a ≠ 2 := fun e => hn (by rw [e]; decide)
        have hn' : a ∉ ([1, 2, 4, 5, 6, 7] : List Nat) := fun q => hn (List.mem_cons_of_mem _ q)
        have hn2 : a ∉ ([1, 2] : List Nat) := fun q => hn' (by simp only [List.mem_cons, List.not_mem_nil, or_false] at q ⊢; omega)
        rw [zI_yI, if_neg n0, zI_yR, zI_yI, if_neg n2, l.1 a (by omega) hn', (f2.1 a (by omega)).2.2.1, s1.1 a hn2]
      · rw [zI_yI, if_pos rfl, va_upA, if_neg hk, zI_yR, zI_yI, if_neg (by decide), l.1 0 (by omega) (by decide), (f2.1 0 (by omega)).2.2.1, s1.1 0 (by decide)]
      · obtain ⟨l1, l2, l3⟩ := l.2.1 a (by omega)
        obtain ⟨f1, f2', f3, f4⟩ := f2.1 a (by omega)
        refine ⟨by rw [zT_yI, zT_yR, zT_yI, l1, f1, s1.2.1], by rw [zN_yI, zN_yR, zN_yI, l2, f2', s1.2.2.1], fun n0 => by rw [zR_yI, zR_yR, if_neg n0, zR_yI, l3, f4, s1.2.2.2.1]⟩
      · rw [zn_yI, zn_yR, zn_yI]; omega
      · rw [zn_yI, zn_yR, zn_yI]; omega
      · rw [zk_yI, zk_yR, zk_yI]; omega
      · unfold C5; rw [zI_yI, if_neg (by decide), zI_yR, zI_yI, if_neg (by decide)]; exact c5g
      · rw [zI_yI, if_neg (by decide), zI_yR, zI_yI, if_pos rfl, va_upA, if_pos rfl]
    refine c32L (b := zn g1) (n := m) (ch := ch) K2 (by omega) (by omega) (by omega) (by rw [q2]; exact u22) (hch.keep (by rw [(f2.1 3 (by omega)).2.2.1]; exact s1.1 3 (by decide))) (by rw [q1]; exact u11) (m + 1) 0 0 [] [] g2 (by omega) (Nat.zero_le _) (Nat.le_refl _) Lw.rf (by unfold C5; rw [(f2.1 5 (by omega)).2.2.1, s1.1 5 (by decide)]; exact c5) rfl (by rw [q2]; exact u23) hb2 r0 r2 bo0 (fun i j hi => absurd hi (Nat.not_lt_zero _)) (fun i j hi => absurd hi (Nat.not_lt_zero _)) (by simp) (by simp) (fun k p e g l c5g f1 f2' z zk' => ?_) (fun S' C' e g l c5g g1' hb bo z zk' => ?_)
    · have zR0 : zR g 0 = zR h 0 := by rw [(l.2.1 0 (by omega)).2.2, (f2.1 0 (by omega)).2.2.2, s1.2.2.2.1]
      have ey : yI (yR (yI g 2 1 (nI 0)) 0 2 (zR g 0 2)) 0 0 (nI 4) = yI (yI g 2 1 (nI 0)) 0 0 (nI 4) := by
        have : yR (yI g 2 1 (nI 0)) 0 2 (zR g 0 2) = yI g 2 1 (nI 0) := yR_id rfl
        rw [this]
      have F := fr g l c5g z zk' (zR g 0 2) (nI 4)
      rw [ey] at F
      refine V87n (l.SK (by omega) K2) (kb k p e _ F ?_ ?_ ?_ ?_)
      · rw [zR_yI, zR_yI]; exact zR0
      · rw [zI_yI, if_pos rfl, va_upA, if_pos rfl]; rfl
      · rw [zI_yI, if_neg (by decide), zI_yI, if_neg (by decide)]; exact f1
      · rw [zI_yI, if_neg (by decide), zI_yI, if_neg (by decide)]; exact f2'
    · have Kg := l.SK (by omega) K2
      have tb : zT g (zn g1) = 2 := hb.2.1
      have bI1 : zI g (zn g1) 1 = nI S'.length := hb.2.2.1
      have F := fr g l c5g z zk' (some (zn g1)) (Int32.ofInt 0)
      refine B87_32 (B87_43 (Kg.T 0) (B87_48 (by rw [zT_yR]; exact tb) (Kg.T 0) ?_))
      have eI : zI (yR (yI g 2 1 (nI 0)) 0 2 (some (zn g1))) (zn g1) 1 = nI S'.length := by
        rw [zI_yR, zI_yI, if_neg (by omega)]; exact bI1
      rw [eI]
      refine B106_0 (Kg.T 0) (B87_56 ?_)
      refine k0 S' C' e _ F ?_ ?_ ?_ ?_ bo
      · rw [zI_yI, if_pos rfl, va_upA, if_pos rfl]; rfl
      · rw [zI_yI, if_neg (by decide), zI_yR, zI_yI, if_neg (by decide), g1', q1]; exact u11
      · rw [zI_yI, if_neg (by decide), zI_yR, zI_yI, if_neg (by decide), g1', q1]; exact u12
      · refine ⟨zn g1, by rw [zR_yI, zR_yR, if_pos rfl, va_upA, if_pos rfl], ?_⟩
        refine hb.keepW (fun a d => ?_) (by rw [zn_yI, zn_yR, zn_yI]; exact Nat.le_refl _)
        have n0 : a ≠ 0 := fun e => by rcases d.1 with h | h | h | h <;> omega
        have n2 : a ≠ 2 := fun e => by rcases d.1 with h | h | h | h <;> omega
        rw [zT_yI, zT_yR, zT_yI, zN_yI, zN_yR, zN_yI, zI_yI, if_neg n0, zI_yR, zI_yI, if_neg n2, zR_yI, zR_yR, if_neg n0, zR_yI]
        exact ⟨rfl, rfl, rfl, rfl⟩
  refine V87  K ?_ ?_ ?_ <;> simp (disch := omega) only [oi_l, oi_n, z_nI, nIA, nIM, nIS, nIlt, nIle, nIeq, nIC, vpI, Nat.add_sub_cancel, Nat.not_le, Nat.not_lt, Nat.not_lt_zero, Nat.le_refl, not_true_eq_false, not_false_eq_true, false_imp_iff, true_imp_iff, forall_const, implies_true, Nat.reduceEqDiff, Nat.reduceLeDiff, Nat.reduceLT, e1, hm, eq_true hm] <;> first | omega | exact W

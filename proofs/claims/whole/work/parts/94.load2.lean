/-! load of the model, whole; the pair -/
def FM (M : List Nat) (h g : pm_H) : Prop := (∀ a, a ∉ LM → a ∉ M → a ≠ 35 → zI g a = zI h a) ∧ (∀ k, 19 ≤ k → zI g 35 k = zI h 35 k) ∧ (∀ a, zT g a = zT h a) ∧ (∀ a, zN g a = zN h a) ∧ (∀ a, zR g a = zR h a) ∧ zn g = zn h ∧ zk g = zk h
theorem MG.FM {h g : pm_H} (m : MG h g) : FM [] h g := ⟨fun a h1 _ h3 => m.1 a h1 h3, fun k hk => m.2.1 k (by omega) (by omega) (by omega), m.2.2⟩
theorem FM.tr {M N : List Nat} {h g f : pm_H} (p : FM M h g) (q : FM N g f) : FM (M ++ N) h f := ⟨fun a h1 h2 h3 => (q.1 a h1 (fun z => h2 (List.mem_append_right _ z)) h3).trans (p.1 a h1 (fun z => h2 (List.mem_append_left _ z)) h3), fun k h1 => (q.2.1 k h1).trans (p.2.1 k h1), fun a => (q.2.2.1 a).trans (p.2.2.1 a), fun a => (q.2.2.2.1 a).trans (p.2.2.2.1 a), fun a => (q.2.2.2.2.1 a).trans (p.2.2.2.2.1 a), q.2.2.2.2.2.1.trans p.2.2.2.2.2.1, q.2.2.2.2.2.2.trans p.2.2.2.2.2.2⟩
theorem FM.rf {M : List Nat} {h : pm_H} : FM M h h := ⟨fun _ _ _ _ => rfl, fun _ _ => rfl, fun _ => rfl, fun _ => rfl, fun _ => rfl, rfl, rfl⟩
theorem FM.F {M : List Nat} {h g : pm_H} (c : FM M h g) (i : Nat) (v : Int32) (hi : i < 19) : FM M h (yI g 35 i v) := ⟨fun a h1 h2 h3 => (zI_yAn g _ h3).trans (c.1 a h1 h2 h3), fun k h1 => by
  rw [zI_yI, if_pos rfl, va_upA, if_neg (by omega)]; exact c.2.1 k h1, c.2.2⟩
theorem FM.S {M : List Nat} {h g : pm_H} (s : Same M h g) (h35 : 35 ∉ M) : FM M h g := ⟨fun a _ h2 _ => s.1 a h2, fun k _ => by rw [s.1 35 h35], s.2.1, s.2.2.1, s.2.2.2.1, s.2.2.2.2.2.1, s.2.2.2.2.2.2⟩
theorem FM.SK {M : List Nat} {h g : pm_H} (k : FM M h g) (s : SK h) : SK g :=
  ⟨fun a ha => (k.2.2.1 a).trans (s.1 a ha), fun a ha => (k.2.2.2.1 a).trans (s.2.1 a ha), fun a i hi => (congrFun (k.2.2.2.2.1 a) i).trans (s.2.2.1 a i hi), by rw [k.2.2.2.2.2.1]; exact s.2.2.2⟩
set_option maxHeartbeats 2000000 in
theorem c145 {h : pm_H} {Q : Option Value → pm_H → Prop} {ch : Nat → Nat} {m n0 : Nat} (K : SK h) (e3 : zI h 35 3 = nI n0) (hn0 : n0 ≤ 800) (hm : m ≤ n0) (hch : CH h 36 ch m)
    (kb : ∀ k p, rdB ch m (m + 1) 0 [] [] = .inl (k, p) → ∀ g, FM [] h g → zI g 35 15 = zI h 35 15 → zI g 35 16 = zI h 35 16 → zI g 35 0 = nI 4 → zI g 35 5 = nI k → zI g 35 6 = nI p → zI g 35 3 = nI 0 → Q (some (.int (Int32.ofInt (-1)))) g)
    (k0 : ∀ S C, rdB ch m (m + 1) 0 [] [] = .inr (S, C) → ∀ g, FM [37, 38, 39, 40, 41, 42, 43, 45] h g → zI g 35 0 = nI 0 → zI g 35 5 = nI 0 → zI g 35 6 = Int32.ofInt (-1) → zI g 35 3 = nI 0 → I_mb (S, C) (zI g 35 15) (zI g 35 16) (zI g 37) (zI g 38) (zI g 39) (zI g 40) (zI g 41) (zI g 42) (zI g 43) (zI g 45) → Q (some (.int (nI S.length))) g) : WP 145 0 [some (.ref 35), some (.int (nI m)), none, none] [] h Q := by
  have fm : FM [] h (yI (yI (yI (yI (yI (yI (yI (yI h 35 1 (nI 0)) 35 0 (nI 0)) 35 4 (nI m)) 35 3 (nI 0)) 35 11 (nI 0)) 35 7 (nI 0)) 35 17 (nI 0)) 35 18 (nI 0)) := (((((((FM.rf.F 1 _ (by decide)).F 0 _ (by decide)).F 4 _ (by decide)).F 3 _ (by decide)).F 11 _ (by decide)).F 7 _ (by decide)).F 17 _ (by decide)).F 18 _ (by decide)
  have u : ∀ k, zI (yI (yI (yI (yI (yI (yI (yI (yI h 35 1 (nI 0)) 35 0 (nI 0)) 35 4 (nI m)) 35 3 (nI 0)) 35 11 (nI 0)) 35 7 (nI 0)) 35 17 (nI 0)) 35 18 (nI 0)) 35 k = if k = 18 then nI 0 else if k = 17 then nI 0 else if k = 7 then nI 0 else if k = 11 then nI 0 else if k = 3 then nI 0 else if k = 4 then nI m else if k = 0 then nI 0 else if k = 1 then nI 0 else zI h 35 k := fun k => by
    simp only [zI_yI, va_upA, if_true]
  have W : WP 128 0 [some (.ref 35), none] [] (yI (yI (yI (yI (yI (yI (yI (yI h 35 1 (nI 0)) 35 0 (nI 0)) 35 4 (nI m)) 35 3 (nI 0)) 35 11 (nI 0)) 35 7 (nI 0)) 35 17 (nI 0)) 35 18 (nI 0)) (fun v1 h1 => WP 145 62 [some (.ref 35), some (.int (nI m)), none, none] (v1.toList ++ []) h1 Q) := by
    obtain ⟨h1, eh1⟩ : ∃ h1, h1 = yI (yI (yI (yI (yI (yI (yI (yI h 35 1 (nI 0)) 35 0 (nI 0)) 35 4 (nI m)) 35 3 (nI 0)) 35 11 (nI 0)) 35 7 (nI 0)) 35 17 (nI 0)) 35 18 (nI 0) := ⟨_, rfl⟩
    rw [← eh1] at fm u ⊢
    have K1 := fm.SK K
    have e4 : zI h1 35 4 = nI m := by rw [u]; rfl
    have hc1 : CH h1 36 ch m := hch.keep (fm.1 36 (by decide) (by simp) (by decide))
    refine c128 K1 (by omega) (Nat.zero_le _) e4 (by rw [u]; rfl) hc1 (fun g1 t1 a9 a10 a11 a12 a13 => ?_)
    have m1 : MG h1 g1 := (MF.T (L := []) t1).G (by simp)
    have q17 : zI g1 35 17 = nI 0 := by rw [t1.2.1 17 (by omega), u]; rfl
    have q18 : zI g1 35 18 = nI 0 := by rw [t1.2.1 18 (by omega), u]; rfl
    refine m145A K1 (by omega) e4 hc1 (m + 1) 0 [] g1 none none (by omega) (Nat.zero_le _) m1 ⟨a9, a10, a11, a12, a13⟩ (by rw [t1.2.1 7 (by omega), u]; rfl) ⟨q17, q18, fun s hs => absurd hs (Nat.not_lt_zero _), fun s hs => absurd hs (Nat.not_lt_zero _)⟩ ⟨by decide, by decide, fun s hs => absurd hs List.not_mem_nil, fun s hs => absurd hs List.not_mem_nil⟩ (fun k p e hk hk7 g d2 d3 mg b7 b8 => ?_) (fun S C e g d2 d3 mg b7 mb bo => ?_)
    · have fg : FM [] h g := fm.tr mg.FM
      have Kg := fg.SK K
      have x3 : zI g 35 3 = nI 0 := by rw [mg.2.1 3 (by omega) (by omega) (by omega), u]; rfl
      have k' := kb k p e (yI (yI (yI g 35 5 (nI k)) 35 6 (nI p)) 35 0 (nI 4)) (((fg.F 5 _ (by decide)).F 6 _ (by decide)).F 0 _ (by decide)) (by simp only [zI_yI, va_upA, Nat.reduceEqDiff, if_true, if_false]; rw [mg.2.1 15 (by omega) (by omega) (by omega), u]; rfl) (by simp only [zI_yI, va_upA, Nat.reduceEqDiff, if_true, if_false]; rw [mg.2.1 16 (by omega) (by omega) (by omega), u]; rfl) (by simp [zI_yI, va_upA]) (by simp [zI_yI, va_upA]) (by simp [zI_yI, va_upA]) (by simp [zI_yI, va_upA, x3])
      have S5 : SK (yI g 35 5 (nI k)) := (fg.F 5 _ (by decide)).SK K
      have y7 : zI (yI g 35 5 (nI k)) 35 7 = nI k := by simp [zI_yI, va_upA, b7]
      have A' : WP 145 172 [some (.ref 35), some (.int (nI m)), d2, d3] [.int (nI p), .ref 35] (yI g 35 5 (nI k)) Q := by
        refine V145k  S5 ?_ ?_ <;> simp (disch := omega) only [oi_l, oi_n, z_nI, nIA, nIM, nIS, nIlt, nIle, nIeq, nIC, vpI, Nat.add_sub_cancel, Nat.not_le, Nat.not_lt, Nat.not_lt_zero, Nat.le_refl, not_true_eq_false, not_false_eq_true, false_imp_iff, true_imp_iff, forall_const, implies_true, Nat.reduceEqDiff, Nat.reduceLeDiff, Nat.reduceLT, y7, Nat.le_zero, show ¬ k = 0 by omega] <;> first | omega | exact k'
      refine V145j  Kg ?_ ?_ <;> simp (disch := omega) only [oi_l, oi_n, z_nI, nIA, nIM, nIS, nIlt, nIle, nIeq, nIC, vpI, Nat.add_sub_cancel, Nat.not_le, Nat.not_lt, Nat.not_lt_zero, Nat.le_refl, not_true_eq_false, not_false_eq_true, false_imp_iff, true_imp_iff, forall_const, implies_true, Nat.reduceEqDiff, Nat.reduceLeDiff, Nat.reduceLT, b7, b8, show ¬ k = 0 by omega] <;> first | omega | exact A'
    · have fg : FM [] h g := fm.tr mg.FM
      have Kg := fg.SK K
      have x3 : zI g 35 3 = nI 0 := by rw [mg.2.1 3 (by omega) (by omega) (by omega), u]; rfl
      have x0 : zI g 35 0 = nI 0 := by rw [mg.2.1 0 (by omega) (by omega) (by omega), u]; rfl
      have e17 : zI g 35 17 = nI S.length := mb.1
      have e18 : zI g 35 18 = nI C.length := mb.2.1
      have S5 : SK (yI g 35 5 (nI 0)) := (fg.F 5 _ (by decide)).SK K
      have y7 : zI (yI g 35 5 (nI 0)) 35 7 = nI 0 := by simp [zI_yI, va_upA, b7]
      have y17 : zI (yI g 35 5 (nI 0)) 35 17 = nI S.length := by simp [zI_yI, va_upA, e17]
      have y18 : zI (yI g 35 5 (nI 0)) 35 18 = nI C.length := by simp [zI_yI, va_upA, e18]
      have fg4 : FM [] h (yI (yI (yI (yI g 35 5 (nI 0)) 35 6 (Int32.ofInt (-1))) 35 15 (nI S.length)) 35 16 (nI C.length)) := (((fg.F 5 _ (by decide)).F 6 _ (by decide)).F 15 _ (by decide)).F 16 _ (by decide)
      have v : ∀ k, zI (yI (yI (yI (yI g 35 5 (nI 0)) 35 6 (Int32.ofInt (-1))) 35 15 (nI S.length)) 35 16 (nI C.length)) 35 k = if k = 16 then nI C.length else if k = 15 then nI S.length else if k = 6 then Int32.ofInt (-1) else if k = 5 then nI 0 else zI g 35 k := fun k => by
        simp only [zI_yI, va_upA, if_true]
      have w : ∀ a, a ≠ 35 → zI (yI (yI (yI (yI g 35 5 (nI 0)) 35 6 (Int32.ofInt (-1))) 35 15 (nI S.length)) 35 16 (nI C.length)) a = zI g a := fun a ha => by
        rw [zI_yI, if_neg ha, zI_yI, if_neg ha, zI_yI, if_neg ha, zI_yI, if_neg ha]
      have A' : ∀ d3, WP 145 206 [some (.ref 35), some (.int (nI m)), some (.int (nI 0)), d3] [] (yI (yI (yI (yI g 35 5 (nI 0)) 35 6 (Int32.ofInt (-1))) 35 15 (nI S.length)) 35 16 (nI C.length)) Q := fun d3 => by
        obtain ⟨g4, eg4⟩ : ∃ g4, g4 = yI (yI (yI (yI g 35 5 (nI 0)) 35 6 (Int32.ofInt (-1))) 35 15 (nI S.length)) 35 16 (nI C.length) := ⟨_, rfl⟩
        rw [← eg4] at fg4 v w ⊢
        have mb4 : MBk g4 (S, C) := by
          unfold MBk
          rw [v 17, v 18, w 47 (by decide), w 48 (by decide), w 49 (by decide), w 50 (by decide), w 51 (by decide), w 52 (by decide), w 44 (by decide), w 46 (by decide)]
          exact mb
        refine m145C (S := S) (C := C) (fg4.SK K) mb4 bo (by rw [v]; rfl) (by rw [v]; rfl) d3 (fun g5 s5 ps pc => ?_)
        have x35 : zI g5 35 = zI g4 35 := s5.1 35 (by decide)
        refine k0 S C e g5 (fg4.tr (FM.S s5 (by decide))) (by rw [x35, v]; exact x0) (by rw [x35, v]; rfl) (by rw [x35, v]; rfl) (by rw [x35, v]; exact x3) ?_
        refine ⟨by rw [x35, v]; rfl, by rw [x35, v]; rfl, fun s hs => ps s hs hs, fun c hc => pc c hc hc⟩
      have B' : WP 145 172 [some (.ref 35), some (.int (nI m)), d2, d3] [.int (Int32.ofInt (-1)), .ref 35] (yI g 35 5 (nI 0)) Q := by
        refine V145k  S5 ?_ ?_ <;> simp (disch := omega) only [oi_l, oi_n, z_nI, nIA, nIM, nIS, nIlt, nIle, nIeq, nIC, vpI, Nat.add_sub_cancel, Nat.not_le, Nat.not_lt, Nat.not_lt_zero, Nat.le_refl, not_true_eq_false, not_false_eq_true, false_imp_iff, true_imp_iff, forall_const, implies_true, Nat.reduceEqDiff, Nat.reduceLeDiff, Nat.reduceLT, y7, y17, y18] <;> first | omega | exact A' _
      refine V145j  Kg ?_ ?_ <;> simp (disch := omega) only [oi_l, oi_n, z_nI, nIA, nIM, nIS, nIlt, nIle, nIeq, nIC, vpI, Nat.add_sub_cancel, Nat.not_le, Nat.not_lt, Nat.not_lt_zero, Nat.le_refl, not_true_eq_false, not_false_eq_true, false_imp_iff, true_imp_iff, forall_const, implies_true, Nat.reduceEqDiff, Nat.reduceLeDiff, Nat.reduceLT, b7] <;> first | omega | exact B'
  refine V145  K ?_ ?_ ?_ <;> simp (disch := omega) only [oi_l, oi_n, z_nI, nIA, nIM, nIS, nIlt, nIle, nIeq, nIC, vpI, Nat.add_sub_cancel, Nat.not_le, Nat.not_lt, Nat.not_lt_zero, Nat.le_refl, not_true_eq_false, not_false_eq_true, false_imp_iff, true_imp_iff, forall_const, implies_true, Nat.reduceEqDiff, Nat.reduceLeDiff, Nat.reduceLT, e3, eq_true hm] <;> first | omega | exact W
set_option maxHeartbeats 2000000 in
theorem p_load {h : pm_H} {x1 : Int32} (I : INV h) : PAIR 87 145 [.int x1] h := by
  obtain ⟨S, n1, i1, i2, i3, ⟨n0, hn0, t1, t2, tt⟩, i5, B, b1, b2, b3⟩ := id I
  have z76 := S.2.2.2
  have neg : x1 < 0 ∨ (∃ m, n0 < m ∧ m < 2147483648 ∧ x1 = nI m) ∨ ∃ m, m ≤ n0 ∧ x1 = nI m := by
    rcases i32c x1 with c | ⟨m, hm, e⟩
    · exact Or.inl c
    · by_cases q : m ≤ n0
      · exact Or.inr (Or.inr ⟨m, q, e⟩)
      · exact Or.inr (Or.inl ⟨m, by omega, hm, e⟩)
  show WP 87 0 [some (.ref 0), some (.int x1), none] [] h _
  rcases neg with c | ⟨m, q1, q2, rfl⟩ | ⟨m, q1, rfl⟩
  · have M' : WP 145 0 [some (.ref 35), some (.int x1), none, none] [] (yI h 0 0 (Int32.ofInt 2)) (fun v2 h2 => some (Value.int (Int32.ofInt (-1))) = v2 ∧ INV h2 ∧ (∃ x, some (Value.int (Int32.ofInt (-1))) = some (Value.int x)) ∧ zn h2 ≤ zn h + 200 ∧ zk h2 ≤ zk h + 14000) := by
      refine V145 (S.I 0 0 _) (fun _ => ?_) (fun q => absurd c q) (fun q => absurd c q)
      first | exact pfin I ((((Kp.rf.I0 0 _ rfl).I35 1 _ rfl).I35 0 _ rfl).I35 0 _ rfl) (by simp [zI_yI, va_upA]) | exact pfinT I ((((Kp.rf.I0 0 _ rfl).I35 1 _ rfl).I35 0 _ rfl).I35 0 _ rfl) (by simp [zI_yI, va_upA])
    exact V87 S (fun _ => M') (fun q => absurd c q) (fun q => absurd c q)
  · have hx : ¬ nI m < 0 := by rw [z_nI, nIlt (by omega) (by omega)]; exact Nat.not_lt_zero _
    have hy : ¬ nI m ≤ nI n0 := by rw [nIle (by omega) (by omega)]; omega
    have M' : WP 145 0 [some (.ref 35), some (.int (nI m)), none, none] [] (yI h 0 0 (Int32.ofInt 2)) (fun v2 h2 => some (Value.int (Int32.ofInt (-1))) = v2 ∧ INV h2 ∧ (∃ x, some (Value.int (Int32.ofInt (-1))) = some (Value.int x)) ∧ zn h2 ≤ zn h + 200 ∧ zk h2 ≤ zk h + 14000) := by
      refine V145 (S.I 0 0 _) (fun q => absurd q hx) (fun _ q => ?_) (fun _ _ => ?_)
      · rw [zI_yI, if_neg (by decide), t2] at q; exact absurd q hy
      · first | exact pfin I ((((Kp.rf.I0 0 _ rfl).I35 1 _ rfl).I35 0 _ rfl).I35 0 _ rfl) (by simp [zI_yI, va_upA]) | exact pfinT I ((((Kp.rf.I0 0 _ rfl).I35 1 _ rfl).I35 0 _ rfl).I35 0 _ rfl) (by simp [zI_yI, va_upA])
    exact V87 S (fun q => absurd q hx) (fun _ q => absurd (by rw [t1] at q; exact q) hy) (fun _ _ => M')
  · have chA : CH h 3 (chZ (zI h 3)) m := CH_of (fun j hj => ⟨rfl, (tt j (by omega)).2⟩)
    have chB : CH h 36 (chZ (zI h 3)) m := CH_of (fun j hj => ⟨(tt j (by omega)).1.symm, (tt j (by omega)).2⟩)
    -- both frames give INV
    have fin : ∀ M g g2, (∀ a ∈ M, 37 ≤ a ∧ a ≤ 45) → FC h g → FM M g g2 → zI g2 35 0 = zI g 0 0 → zI g2 35 5 = zI g 1 1 → zI g2 35 6 = zI g 1 2 → zI g2 35 3 = nI 0 → (∃ B, bk_ok B ∧ I_cb g2 B ∧ I_mb B (zI g2 35 15) (zI g2 35 16) (zI g2 37) (zI g2 38) (zI g2 39) (zI g2 40) (zI g2 41) (zI g2 42) (zI g2 43) (zI g2 45)) → INV g2 ∧ zn g2 ≤ zn h + 200 ∧ zk g2 ≤ zk h + 14000 := by
      intro M g g2 hM fc fm e0 e5 e6 e3 bk
      obtain ⟨c1, c2, c3, c4, c5, c6, c7, c8, c9⟩ := fc
      have row : ∀ a, a < 76 → a ∉ ([0, 1, 2, 4, 5, 6, 7, 35] : List Nat) → a ∉ LM → a < 37 ∨ 45 < a → zI g2 a = zI h a := fun a h1 h2 h3 h4 => by
        rw [fm.1 a h3 (fun q => by have := hM a q; omega) (fun q => h2 (by rw [q]; decide)), c1 a (by omega) (fun q => h2 (by simp only [List.mem_cons, List.not_mem_nil, or_false] at q ⊢; omega))]
      have r0 : ∀ a, a ∈ ([0, 1, 2, 5] : List Nat) → zI g2 a = zI g a := fun a ha => by
        simp only [List.mem_cons, List.not_mem_nil, or_false] at ha
        refine fm.1 a (fun q => ?_) (fun q => by have := hM a q; omega) (by omega)
        simp only [LM, List.mem_cons, List.not_mem_nil, or_false] at q
        omega
      refine ⟨I.ld (fm.SK c7) (fun a ha => row a ?_ ?_ ?_ ?_) (fun k hk => ?_) (fun k hk => ?_) ?_ ?_ ?_ ?_ e3 ?_ bk, ?_, ?_⟩
      · simp only [List.mem_cons, List.not_mem_nil, or_false] at ha; omega
      · intro q; simp only [List.mem_cons, List.not_mem_nil, or_false] at ha q; omega
      · intro q; simp only [LM, List.mem_cons, List.not_mem_nil, or_false] at ha q; omega
      · simp only [List.mem_cons, List.not_mem_nil, or_false] at ha; omega
      · rw [r0 0 (by decide)]; exact c2 k hk
      · rw [fm.2.1 k hk, c1 35 (by omega) (by decide)]
      · rw [r0 0 (by decide)]; exact e0.symm
      · rw [r0 1 (by decide)]; exact e5.symm
      · rw [r0 1 (by decide)]; exact e6.symm
      · rw [r0 2 (by decide)]; exact c9
      · unfold C5; rw [r0 5 (by decide)]; exact c8
      · rw [fm.2.2.2.2.2.1]; omega
      · rw [fm.2.2.2.2.2.2]; omega
    have dy : ∀ M g g2, (∀ a ∈ M, 37 ≤ a ∧ a ≤ 45) → FM M g g2 → sameD g g2 := fun M g g2 hM fm => by
      refine ⟨fun a ha => ⟨fm.2.2.1 a, fm.2.2.2.1 a, fm.1 a (fun q => ?_) (fun q => ?_) (fun q => ?_), fm.2.2.2.2.1 a⟩, by rw [fm.2.2.2.2.1], Nat.le_of_eq fm.2.2.2.2.2.1.symm⟩
      · simp only [LM, List.mem_cons, List.not_mem_nil, or_false] at q
        rcases ha.1 with h | h | h | h <;> omega
      · have := hM a q
        rcases ha.1 with h | h | h | h <;> omega
      · rcases ha.1 with h | h | h | h <;> omega
    refine c87 S i5.1 t1 hn0 q1 chA (fun k p e g fc zr s0 f1 f2 => ?_) (fun S' C' e g fc s0 f1 f2 cb bo => ?_)
    · have t2g : zI g 35 3 = nI n0 := by rw [fc.1 35 (by omega) (by decide)]; exact t2
      have cg : CH g 36 (chZ (zI h 3)) m := chB.keep (fc.1 36 (by omega) (by decide))
      show WP 145 0 [some (.ref 35), some (.int (nI m)), none, none] [] g _
      refine c145 fc.2.2.2.2.2.2.1 t2g hn0 q1 cg (fun k' p' e' g2 fm m15 m16 x0 x5 x6 x3 => ?_) (fun S' C' e' => by rw [e] at e'; cases e')
      rw [e] at e'
      injection e' with e'
      injection e' with ek ep
      subst ek
      subst ep
      have rw' : ∀ a, 37 ≤ a → a ≤ 45 → a ≠ 44 → zI g2 a = zI h a := fun a h1 h2 h3 => by
        rw [fm.1 a (fun q => by simp only [LM, List.mem_cons, List.not_mem_nil, or_false] at q; omega) (by simp) (by omega), fc.1 a (by omega) (fun q => by simp only [List.mem_cons, List.not_mem_nil, or_false] at q; omega)]
      have q35 : zI g 35 = zI h 35 := fc.1 35 (by omega) (by decide)
      obtain ⟨f1', f2', f3'⟩ := fin [] g g2 (by simp) fc fm (by rw [x0, s0]) (by rw [x5, f1]) (by rw [x6, f2]) x3 ⟨B, b1, by
        have sd : sameD h g := ⟨fun a ha => by
          obtain ⟨y1, y2, y3⟩ := fc.2.2.1 a ha.2
          have na : a ∉ ([0, 1, 2, 4, 5, 6, 7] : List Nat) := fun q => by
            simp only [List.mem_cons, List.not_mem_nil, or_false] at q
            rcases ha.1 with h | h | h | h <;> omega
          exact ⟨y1, y2, fc.1 a ha.2 na, y3 (fun q => na (by rw [q]; decide))⟩, by rw [zr], fc.2.2.2.1⟩
        exact (b2.keep sd).keep (dy [] g g2 (by simp) fm), by
        rw [m15, m16, q35, rw' 37 (by decide) (by decide) (by decide), rw' 38 (by decide) (by decide) (by decide), rw' 39 (by decide) (by decide) (by decide), rw' 40 (by decide) (by decide) (by decide), rw' 41 (by decide) (by decide) (by decide), rw' 42 (by decide) (by decide) (by decide), rw' 43 (by decide) (by decide) (by decide), rw' 45 (by decide) (by decide) (by decide)]
        exact b3⟩
      exact ⟨rfl, f1', ⟨_, rfl⟩, f2', f3'⟩
    · have t2g : zI g 35 3 = nI n0 := by rw [fc.1 35 (by omega) (by decide)]; exact t2
      have cg : CH g 36 (chZ (zI h 3)) m := chB.keep (fc.1 36 (by omega) (by decide))
      show WP 145 0 [some (.ref 35), some (.int (nI m)), none, none] [] g _
      refine c145 fc.2.2.2.2.2.2.1 t2g hn0 q1 cg (fun k' p' e' => by rw [e] at e'; cases e') (fun S2 C2 e' g2 fm x0 x5 x6 x3 mb => ?_)
      rw [e] at e'
      injection e' with e'
      injection e' with ek ep
      subst ek
      subst ep
      obtain ⟨f1', f2', f3'⟩ := fin [37, 38, 39, 40, 41, 42, 43, 45] g g2 (by decide) fc fm (by rw [x0, s0]) (by rw [x5, f1]) (by rw [x6, f2]) x3 ⟨(S', C'), bo, cb.keep (dy _ g g2 (by decide) fm), mb⟩
      exact ⟨rfl, f1', ⟨_, rfl⟩, f2', f3'⟩

/-! words and signs, as both test them -/
theorem cdZ_b {ch : Nat → Nat} {s : Nat} : ∀ k, (∀ j, j < k → 97 ≤ ch (s + j) ∧ ch (s + j) ≤ 122) → 0 ≤ cdZ ch s k ∧ cdZ ch s k < 32 ^ k ∧ (0 < k → 1 ≤ cdZ ch s k)
  | 0, _ => ⟨Int.le_refl _, by show (0 : Int) < 32 ^ 0; decide, fun h => absurd h (by decide)⟩
  | k + 1, h => by
    have ih := cdZ_b k (fun j hj => h j (by omega))
    have := h k (by omega)
    rw [cdZ, Int.pow_succ]
    omega
theorem cdZ_in {ch u : Nat → Nat} {s : Nat} : ∀ k l, (∀ j, j < k → 97 ≤ ch (s + j) ∧ ch (s + j) ≤ 122) → (∀ j, j < l → 97 ≤ u j ∧ u j ≤ 122) → cdZ ch s k = cdZ u 0 l → k = l ∧ ∀ j, j < k → ch (s + j) = u j
  | 0, 0, _, _, _ => ⟨rfl, fun j hj => absurd hj (Nat.not_lt_zero _)⟩
  | 0, l + 1, _, h2, e => by
    have := (cdZ_b (ch := u) (s := 0) (l + 1) (fun j hj => by rw [Nat.zero_add]; exact h2 j hj)).2.2 (by omega)
    rw [← e] at this
    exact absurd this (show ¬ (1 : Int) ≤ 0 by decide)
  | k + 1, 0, h1, _, e => by
    have := (cdZ_b (ch := ch) (s := s) (k + 1) h1).2.2 (by omega)
    rw [e] at this
    exact absurd this (show ¬ (1 : Int) ≤ 0 by decide)
  | k + 1, l + 1, h1, h2, e => by
    rw [cdZ, cdZ, Nat.zero_add] at e
    have a := h1 k (by omega)
    have b := h2 l (by omega)
    have ih := cdZ_in k l (fun j hj => h1 j (by omega)) (fun j hj => h2 j (by omega)) (by omega)
    refine ⟨by rw [ih.1], fun j hj => ?_⟩
    by_cases q : j = k
    · subst q
      have : u j = u l := by rw [ih.1]
      omega
    · exact ih.2 j (by omega)
theorem mW_eq {ch : Nat → Nat} {s e : Nat} {w : List Nat} (hl : ∀ j, s ≤ j → j < e → 97 ≤ ch j ∧ ch j ≤ 122) (hw : ∀ j, j < w.length → 97 ≤ w.getD j 0 ∧ w.getD j 0 ≤ 122) (hwl : w.length ≤ 12) : mW ch s (e - s) = Int64.ofInt (cdZ (fun j => w.getD j 0) 0 w.length) ↔ spl ch s e w = true := by
  have hl' : ∀ j, j < e - s → 97 ≤ ch (s + j) ∧ ch (s + j) ≤ 122 := fun j hj => hl (s + j) (by omega) (by omega)
  have wb := cdZ_b (ch := fun j => w.getD j 0) (s := 0) w.length (fun j hj => by rw [Nat.zero_add]; exact hw j hj)
  have p12 : ∀ k, k ≤ 12 → (32 : Int) ^ k ≤ 1152921504606846976 := fun k hk => by
    have h1 : (32 : Nat) ^ k ≤ 32 ^ 12 := Nat.pow_le_pow_right (by decide) hk
    have h2 : ((32 : Nat) ^ k : Int) = (((32 : Nat) ^ k : Nat) : Int) := by push_cast; rfl
    have h3 : (32 : Nat) ^ 12 = 1152921504606846976 := by decide
    rw [show (32 : Int) ^ k = (((32 : Nat) ^ k : Nat) : Int) by push_cast; rfl]
    omega
  have pw := p12 w.length hwl
  rw [spl_t]
  constructor
  · intro q
    unfold mW at q
    by_cases h12 : e - s ≤ 12
    · rw [if_pos h12] at q
      have cb := cdZ_b (ch := ch) (s := s) (e - s) hl'
      have pk := p12 (e - s) h12
      have q2 := congrArg Int64.toInt q
      rw [Int64.toInt_ofInt_of_le (by omega) (by omega), Int64.toInt_ofInt_of_le (by omega) (by omega)] at q2
      have r := cdZ_in (e - s) w.length hl' hw q2
      exact ⟨r.1, fun k hk => r.2 k (by omega)⟩
    · rw [if_neg h12] at q
      have q2 := congrArg Int64.toInt q
      rw [Int64.toInt_ofInt_of_le (by decide) (by decide), Int64.toInt_ofInt_of_le (by omega) (by omega)] at q2
      omega
  · intro q
    unfold mW
    rw [if_pos (by omega), q.1]
    congr 1
    have : ∀ k, k ≤ w.length → cdZ ch s k = cdZ (fun j => w.getD j 0) 0 k := fun k => by
      induction k with
      | zero => intro _; rfl
      | succ k ih =>
        intro hk
        rw [cdZ, cdZ, ih (by omega), q.2 k (by omega), Nat.zero_add]
    exact this _ (Nat.le_refl _)
theorem lg0 (a b : Int64) : lg_cmp a b = 0 ↔ a = b := by
  unfold lg_cmp
  split
  · rename_i h
    constructor
    · intro q; exact absurd q (by decide)
    · intro q; subst q; exact absurd h (by simp)
  · split
    · rename_i h; exact ⟨fun _ => h, fun _ => rfl⟩
    · rename_i h1 h2
      constructor
      · intro q; exact absurd q (by decide)
      · intro q; exact absurd q h2
/-- the model's token is the one at a place -/
def MT (g : pm_H) (ch : Nat → Nat) (n i : Nat) : Prop := zI g 35 9 = nI (tkd ch n i) ∧ zI g 35 10 = nI (tpl ch n i) ∧ zI g 35 11 = nI (tnx ch n i) ∧ (tkd ch n i = 2 ∨ tkd ch n i = 3 → zI g 35 12 = nI (tvl ch n i)) ∧ (tkd ch n i = 1 → zI g 35 13 = nI (tnx ch n i - tpl ch n i) ∧ zJ g 35 14 = mW ch (tpl ch n i) (tnx ch n i - tpl ch n i))
/-- the class's -/
def CT (g : pm_H) (ch : Nat → Nat) (n i : Nat) : Prop := zI g 2 3 = nI (tnx ch n i) ∧ zI g 2 4 = nI (tkd ch n i) ∧ zI g 2 5 = nI (tpl ch n i) ∧ CH g 3 ch n
section WRD
variable {ch : Nat → Nat} {n i : Nat}
theorem tk_le : tkd ch n i ≤ 4 := by
  unfold tkd
  split
  · omega
  · split
    · omega
    · split
      · split <;> omega
      · split <;> omega
theorem tk1 (h : tkd ch n i = 1) : tpl ch n i < n ∧ isL (ch (tpl ch n i)) = true := by
  unfold tkd at h
  split at h
  · omega
  · split at h
    · rename_i h1 h2; exact ⟨by omega, h2⟩
    · split at h
      · split at h <;> omega
      · split at h <;> omega
theorem tk1n (h : tkd ch n i = 1) : tnx ch n i = sc isL ch n (tpl ch n i) := by
  obtain ⟨h1, h2⟩ := tk1 h
  unfold tnx
  rw [if_neg (by omega), if_pos h2]
theorem tk1v (h : tkd ch n i = 1) : tvl ch n i = wv ch (tpl ch n i) (tnx ch n i) := by
  obtain ⟨h1, h2⟩ := tk1 h
  unfold tvl
  rw [if_pos h2]
theorem tk1l (h : tkd ch n i = 1) : (∀ j, tpl ch n i ≤ j → j < tnx ch n i → 97 ≤ ch j ∧ ch j ≤ 122) ∧ tpl ch n i + 1 ≤ tnx ch n i ∧ tnx ch n i ≤ n := by
  obtain ⟨h1, h2⟩ := tk1 h
  rw [tk1n h]
  refine ⟨fun j a b => isL_t.mp (scf_in isL ch (n - tpl ch n i) (tpl ch n i) j a b), ?_, (sc_b (by omega)).2⟩
  rw [sc_st h1, if_pos h2]
  exact (sc_b (by omega)).1
/-- one letter -/
theorem tk1w (h : tkd ch n i = 1) : (tvl ch n i < 26 ↔ tnx ch n i - tpl ch n i = 1) ∧ (tnx ch n i - tpl ch n i = 1 → tvl ch n i = ch (tpl ch n i) - 97) ∧ tvl ch n i ≤ 29 ∧ (tvl ch n i = 26 ↔ ¬ tnx ch n i - tpl ch n i = 1 ∧ spl ch (tpl ch n i) (tnx ch n i) wST = true) ∧ (tvl ch n i = 27 ↔ ¬ tnx ch n i - tpl ch n i = 1 ∧ spl ch (tpl ch n i) (tnx ch n i) wCL = true) ∧ (tvl ch n i = 28 ↔ ¬ tnx ch n i - tpl ch n i = 1 ∧ spl ch (tpl ch n i) (tnx ch n i) wTU = true) := by
  obtain ⟨l1, l2, l3⟩ := tk1l h
  have c := l1 (tpl ch n i) (by omega) (by omega)
  have e := tk1v h
  rw [e]
  unfold wv
  by_cases h1 : tnx ch n i - tpl ch n i = 1
  · rw [if_pos h1]
    refine ⟨⟨fun _ => h1, fun _ => by omega⟩, fun _ => rfl, by omega, ⟨fun q => by omega, fun q => absurd h1 q.1⟩, ⟨fun q => by omega, fun q => absurd h1 q.1⟩, ⟨fun q => by omega, fun q => absurd h1 q.1⟩⟩
  · rw [if_neg h1]
    have x1 : spl ch (tpl ch n i) (tnx ch n i) wST = true → spl ch (tpl ch n i) (tnx ch n i) wCL = false := fun a => by
      rw [spl_t] at a; rw [spl_f]
      intro b
      have := a.2 0 (by decide); have := b.2 0 (by decide)
      have e1 : wST.getD 0 0 = 115 := rfl
      have e2 : wCL.getD 0 0 = 99 := rfl
      omega
    have x2 : spl ch (tpl ch n i) (tnx ch n i) wST = true → spl ch (tpl ch n i) (tnx ch n i) wTU = false := fun a => by
      rw [spl_t] at a; rw [spl_f]
      intro b
      have := a.2 0 (by decide); have := b.2 0 (by decide)
      have e1 : wST.getD 0 0 = 115 := rfl
      have e2 : wTU.getD 0 0 = 116 := rfl
      omega
    have x3 : spl ch (tpl ch n i) (tnx ch n i) wCL = true → spl ch (tpl ch n i) (tnx ch n i) wTU = false := fun a => by
      rw [spl_t] at a; rw [spl_f]
      intro b
      have := a.2 0 (by decide); have := b.2 0 (by decide)
      have e1 : wCL.getD 0 0 = 99 := rfl
      have e2 : wTU.getD 0 0 = 116 := rfl
      omega
    cases a : spl ch (tpl ch n i) (tnx ch n i) wST with
    | true => rw [x1 a, x2 a]; simp [h1]
    | false =>
      cases b : spl ch (tpl ch n i) (tnx ch n i) wCL with
      | true => rw [x3 b]; simp [h1]
      | false => cases c : spl ch (tpl ch n i) (tnx ch n i) wTU <;> simp [h1]
end WRD
theorem V131 {h : pm_H} {Q : Option Value → pm_H → Prop}  (S : SK h) (k3 : (¬ (zI h 35 9) = (Int32.ofInt 1)) → Q (some (.int (Int32.ofInt 0))) h) (k5 : ((zI h 35 9) = (Int32.ofInt 1)) → (¬ (lg_cmp (zJ h 35 14) (((((((((((((((Int32.ofInt 115)).toInt64 - (Int64.ofInt 96)) * (Int64.ofInt 32)) + ((Int32.ofInt 116)).toInt64) - (Int64.ofInt 96)) * (Int64.ofInt 32)) + ((Int32.ofInt 114)).toInt64) - (Int64.ofInt 96)) * (Int64.ofInt 32)) + ((Int32.ofInt 105)).toInt64) - (Int64.ofInt 96)) * (Int64.ofInt 32)) + ((Int32.ofInt 112)).toInt64) - (Int64.ofInt 96))) = 0) → Q (some (.int (Int32.ofInt 0))) h) (k6 : ((zI h 35 9) = (Int32.ofInt 1)) → ((lg_cmp (zJ h 35 14) (((((((((((((((Int32.ofInt 115)).toInt64 - (Int64.ofInt 96)) * (Int64.ofInt 32)) + ((Int32.ofInt 116)).toInt64) - (Int64.ofInt 96)) * (Int64.ofInt 32)) + ((Int32.ofInt 114)).toInt64) - (Int64.ofInt 96)) * (Int64.ofInt 32)) + ((Int32.ofInt 105)).toInt64) - (Int64.ofInt 96)) * (Int64.ofInt 32)) + ((Int32.ofInt 112)).toInt64) - (Int64.ofInt 96))) = 0) → Q (some (.int (Int32.ofInt 1))) h) : WP 131 0 [some (.ref 35)] [] h Q :=
  B131_0 (B129_0 (fun q => absurd q (by decide)) (fun _ => B129_58 (B129_77 (B131_14 (S.T 35) (B130_0 (S.T 35) (fun c2 => B130_21 (B130_22 oi0 (B131_17 oi0 (k3 c2)))) (fun c2 => B130_8 (S.T 35) (fun c4 => B130_21 (B130_22 oi0 (B131_17 oi0 (k5 c2 c4)))) (fun c4 => B130_17 (B130_22 oi1 (B131_17 oi1 (k6 c2 c4))))))))))
theorem V132 {h : pm_H} {Q : Option Value → pm_H → Prop}  (S : SK h) (k3 : (¬ (zI h 35 9) = (Int32.ofInt 1)) → Q (some (.int (Int32.ofInt 0))) h) (k5 : ((zI h 35 9) = (Int32.ofInt 1)) → (¬ (lg_cmp (zJ h 35 14) (((((((((((((((Int32.ofInt 99)).toInt64 - (Int64.ofInt 96)) * (Int64.ofInt 32)) + ((Int32.ofInt 108)).toInt64) - (Int64.ofInt 96)) * (Int64.ofInt 32)) + ((Int32.ofInt 111)).toInt64) - (Int64.ofInt 96)) * (Int64.ofInt 32)) + ((Int32.ofInt 116)).toInt64) - (Int64.ofInt 96)) * (Int64.ofInt 32)) + ((Int32.ofInt 104)).toInt64) - (Int64.ofInt 96))) = 0) → Q (some (.int (Int32.ofInt 0))) h) (k6 : ((zI h 35 9) = (Int32.ofInt 1)) → ((lg_cmp (zJ h 35 14) (((((((((((((((Int32.ofInt 99)).toInt64 - (Int64.ofInt 96)) * (Int64.ofInt 32)) + ((Int32.ofInt 108)).toInt64) - (Int64.ofInt 96)) * (Int64.ofInt 32)) + ((Int32.ofInt 111)).toInt64) - (Int64.ofInt 96)) * (Int64.ofInt 32)) + ((Int32.ofInt 116)).toInt64) - (Int64.ofInt 96)) * (Int64.ofInt 32)) + ((Int32.ofInt 104)).toInt64) - (Int64.ofInt 96))) = 0) → Q (some (.int (Int32.ofInt 1))) h) : WP 132 0 [some (.ref 35)] [] h Q :=
  B132_0 (B129_0 (fun q => absurd q (by decide)) (fun _ => B129_58 (B129_77 (B132_14 (S.T 35) (B130_0 (S.T 35) (fun c2 => B130_21 (B130_22 oi0 (B132_17 oi0 (k3 c2)))) (fun c2 => B130_8 (S.T 35) (fun c4 => B130_21 (B130_22 oi0 (B132_17 oi0 (k5 c2 c4)))) (fun c4 => B130_17 (B130_22 oi1 (B132_17 oi1 (k6 c2 c4))))))))))
theorem V133 {h : pm_H} {Q : Option Value → pm_H → Prop}  (S : SK h) (k3 : (¬ (zI h 35 9) = (Int32.ofInt 1)) → Q (some (.int (Int32.ofInt 0))) h) (k5 : ((zI h 35 9) = (Int32.ofInt 1)) → (¬ (lg_cmp (zJ h 35 14) ((((((((((((Int32.ofInt 116)).toInt64 - (Int64.ofInt 96)) * (Int64.ofInt 32)) + ((Int32.ofInt 117)).toInt64) - (Int64.ofInt 96)) * (Int64.ofInt 32)) + ((Int32.ofInt 114)).toInt64) - (Int64.ofInt 96)) * (Int64.ofInt 32)) + ((Int32.ofInt 110)).toInt64) - (Int64.ofInt 96))) = 0) → Q (some (.int (Int32.ofInt 0))) h) (k6 : ((zI h 35 9) = (Int32.ofInt 1)) → ((lg_cmp (zJ h 35 14) ((((((((((((Int32.ofInt 116)).toInt64 - (Int64.ofInt 96)) * (Int64.ofInt 32)) + ((Int32.ofInt 117)).toInt64) - (Int64.ofInt 96)) * (Int64.ofInt 32)) + ((Int32.ofInt 114)).toInt64) - (Int64.ofInt 96)) * (Int64.ofInt 32)) + ((Int32.ofInt 110)).toInt64) - (Int64.ofInt 96))) = 0) → Q (some (.int (Int32.ofInt 1))) h) : WP 133 0 [some (.ref 35)] [] h Q :=
  B133_0 (B129_0 (fun _ => B129_75 (B129_77 (B133_13 (S.T 35) (B130_0 (S.T 35) (fun c2 => B130_21 (B130_22 oi0 (B133_16 oi0 (k3 c2)))) (fun c2 => B130_8 (S.T 35) (fun c4 => B130_21 (B130_22 oi0 (B133_16 oi0 (k5 c2 c4)))) (fun c4 => B130_17 (B130_22 oi1 (B133_16 oi1 (k6 c2 c4))))))))) (fun q => absurd (by decide) q))
theorem V134 {h : pm_H} {Q : Option Value → pm_H → Prop}  (S : SK h) (k2 : (¬ (zI h 35 9) = (Int32.ofInt 1)) → Q (some (.int (Int32.ofInt 0))) h) (k4 : ((zI h 35 9) = (Int32.ofInt 1)) → (¬ (zI h 35 13) = (Int32.ofInt 1)) → Q (some (.int (Int32.ofInt 0))) h) (k5 : ((zI h 35 9) = (Int32.ofInt 1)) → ((zI h 35 13) = (Int32.ofInt 1)) → Q (some (.int (Int32.ofInt 1))) h) : WP 134 0 [some (.ref 35)] [] h Q :=
  B134_0 (S.T 35) (fun c1 => B134_20 (B134_21 oi0 (k2 c1))) (fun c1 => B134_8 (S.T 35) (fun c3 => B134_20 (B134_21 oi0 (k4 c1 c3))) (fun c3 => B134_16 (B134_21 oi1 (k5 c1 c3))))
theorem V135 {h : pm_H} {Q : Option Value → pm_H → Prop} {c : Nat} (S : SK h) (k2 : (¬ (zI h 35 9) = (Int32.ofInt 3)) → Q (some (.int (Int32.ofInt 0))) h) (k4 : ((zI h 35 9) = (Int32.ofInt 3)) → (¬ (zI h 35 12) = (nI c)) → Q (some (.int (Int32.ofInt 0))) h) (k5 : ((zI h 35 9) = (Int32.ofInt 3)) → ((zI h 35 12) = (nI c)) → Q (some (.int (Int32.ofInt 1))) h) : WP 135 0 [some (.ref 35), some (.int (nI c))] [] h Q :=
  B135_0 (S.T 35) (fun c1 => B135_20 (B135_21 oi0 (k2 c1))) (fun c1 => B135_8 (S.T 35) (fun c3 => B135_20 (B135_21 oi0 (k4 c1 c3))) (fun c3 => B135_16 (B135_21 oi1 (k5 c1 c3))))
section MWD
variable {h : pm_H} {Q : Option Value → pm_H → Prop} {ch : Nat → Nat} {n i : Nat}
theorem spl1 {w : List Nat} {s e : Nat} (hw : 2 ≤ w.length) (h : spl ch s e w = true) : ¬ e - s = 1 := fun q => by
  rw [spl_t] at h; omega
theorem c134 (S : SK h) (m : MT h ch n i) (hn : n ≤ 800) (k0 : Q (some (.int (if tkd ch n i = 1 ∧ tvl ch n i < 26 then nI 1 else nI 0))) h) : WP 134 0 [some (.ref 35)] [] h Q := by
  obtain ⟨m9, m10, m11, m12, m13⟩ := m
  have t4 := tk_le (ch := ch) (n := n) (i := i)
  by_cases k1 : tkd ch n i = 1
  · have tw := tk1w k1
    have tl := tk1l k1
    obtain ⟨m13a, -⟩ := m13 k1
    by_cases l1 : tnx ch n i - tpl ch n i = 1
    · rw [if_pos ⟨k1, tw.1.mpr l1⟩] at k0
      refine V134  S ?_ ?_ ?_ <;> simp (disch := omega) only [oi_l, oi_n, z_nI, nIA, nIM, nIS, nIlt, nIle, nIeq, nIC, vpI, Nat.add_sub_cancel, Nat.not_le, Nat.not_lt, Nat.not_lt_zero, Nat.le_refl, not_true_eq_false, not_false_eq_true, false_imp_iff, true_imp_iff, forall_const, implies_true, Nat.reduceEqDiff, Nat.reduceLeDiff, Nat.reduceLT, m9, m13a, eq_true k1, eq_true l1] <;> first | omega | exact k0
    · rw [if_neg (fun q => l1 (tw.1.mp q.2))] at k0
      refine V134  S ?_ ?_ ?_ <;> simp (disch := omega) only [oi_l, oi_n, z_nI, nIA, nIM, nIS, nIlt, nIle, nIeq, nIC, vpI, Nat.add_sub_cancel, Nat.not_le, Nat.not_lt, Nat.not_lt_zero, Nat.le_refl, not_true_eq_false, not_false_eq_true, false_imp_iff, true_imp_iff, forall_const, implies_true, Nat.reduceEqDiff, Nat.reduceLeDiff, Nat.reduceLT, m9, m13a, eq_true k1, l1] <;> first | omega | exact k0
  · rw [if_neg (fun q => k1 q.1)] at k0
    refine V134  S ?_ ?_ ?_ <;> simp (disch := omega) only [oi_l, oi_n, z_nI, nIA, nIM, nIS, nIlt, nIle, nIeq, nIC, vpI, Nat.add_sub_cancel, Nat.not_le, Nat.not_lt, Nat.not_lt_zero, Nat.le_refl, not_true_eq_false, not_false_eq_true, false_imp_iff, true_imp_iff, forall_const, implies_true, Nat.reduceEqDiff, Nat.reduceLeDiff, Nat.reduceLT, m9, k1] <;> first | omega | exact k0
theorem tv_b (hk : tkd ch n i = 3) : tvl ch n i < 256 := by
  unfold tkd at hk
  split at hk
  · omega
  · split at hk
    · omega
    · rename_i h1 h2
      split at hk
      · split at hk <;> omega
      · rename_i h3
        split at hk
        · rename_i h4
          have := isG_t.mp h4
          unfold tvl
          rw [if_neg h2, if_neg h3]
          omega
        · omega
theorem c135 {c : Nat} (hc : c < 256) (S : SK h) (m : MT h ch n i) (k0 : Q (some (.int (if tkd ch n i = 3 ∧ tvl ch n i = c then nI 1 else nI 0))) h) : WP 135 0 [some (.ref 35), some (.int (nI c))] [] h Q := by
  obtain ⟨m9, m10, m11, m12, m13⟩ := m
  have t4 := tk_le (ch := ch) (n := n) (i := i)
  by_cases k1 : tkd ch n i = 3
  · have m12' := m12 (Or.inr k1)
    have vb := tv_b k1
    by_cases l1 : tvl ch n i = c
    · rw [if_pos ⟨k1, l1⟩] at k0
      refine V135  S ?_ ?_ ?_ <;> simp (disch := omega) only [oi_l, oi_n, z_nI, nIA, nIM, nIS, nIlt, nIle, nIeq, nIC, vpI, Nat.add_sub_cancel, Nat.not_le, Nat.not_lt, Nat.not_lt_zero, Nat.le_refl, not_true_eq_false, not_false_eq_true, false_imp_iff, true_imp_iff, forall_const, implies_true, Nat.reduceEqDiff, Nat.reduceLeDiff, Nat.reduceLT, m9, m12', eq_true k1, eq_true l1] <;> first | omega | exact k0
    · rw [if_neg (fun q => l1 q.2)] at k0
      refine V135  S ?_ ?_ ?_ <;> simp (disch := omega) only [oi_l, oi_n, z_nI, nIA, nIM, nIS, nIlt, nIle, nIeq, nIC, vpI, Nat.add_sub_cancel, Nat.not_le, Nat.not_lt, Nat.not_lt_zero, Nat.le_refl, not_true_eq_false, not_false_eq_true, false_imp_iff, true_imp_iff, forall_const, implies_true, Nat.reduceEqDiff, Nat.reduceLeDiff, Nat.reduceLT, m9, m12', eq_true k1, l1] <;> first | omega | exact k0
  · rw [if_neg (fun q => k1 q.1)] at k0
    refine V135  S ?_ ?_ ?_ <;> simp (disch := omega) only [oi_l, oi_n, z_nI, nIA, nIM, nIS, nIlt, nIle, nIeq, nIC, vpI, Nat.add_sub_cancel, Nat.not_le, Nat.not_lt, Nat.not_lt_zero, Nat.le_refl, not_true_eq_false, not_false_eq_true, false_imp_iff, true_imp_iff, forall_const, implies_true, Nat.reduceEqDiff, Nat.reduceLeDiff, Nat.reduceLT, m9, k1] <;> first | omega | exact k0
theorem word_i {w : List Nat} {v : Nat} (hw2 : 2 ≤ w.length) (hw12 : w.length ≤ 12) (hw : ∀ j, j < w.length → 97 ≤ w.getD j 0 ∧ w.getD j 0 ≤ 122) (m : MT h ch n i) (k1 : tkd ch n i = 1) (hv : tvl ch n i = v ↔ ¬ tnx ch n i - tpl ch n i = 1 ∧ spl ch (tpl ch n i) (tnx ch n i) w = true) : zJ h 35 14 = Int64.ofInt (cdZ (fun j => w.getD j 0) 0 w.length) ↔ tvl ch n i = v := by
  obtain ⟨m9, m10, m11, m12, m13⟩ := m
  rw [(m13 k1).2, mW_eq (tk1l k1).1 hw hw12, hv]
  exact ⟨fun q => ⟨spl1 hw2 q, q⟩, fun q => q.2⟩
theorem c131 (S : SK h) (m : MT h ch n i) (k0 : Q (some (.int (if tkd ch n i = 1 ∧ tvl ch n i = 26 then nI 1 else nI 0))) h) : WP 131 0 [some (.ref 35)] [] h Q := by
  have t4 := tk_le (ch := ch) (n := n) (i := i)
  have m9 := m.1
  by_cases k1 : tkd ch n i = 1
  · have wi := word_i (w := wST) (v := 26) (by decide) (by decide) (by decide) m k1 (tk1w k1).2.2.2.1
    by_cases l1 : tvl ch n i = 26
    · rw [if_pos ⟨k1, l1⟩] at k0
      have e := wi.mpr l1
      refine V131 S (fun q => ?_) (fun _ q => ?_) (fun _ _ => k0)
      · rw [m9, k1] at q; exact absurd rfl q
      · rw [lg0, e] at q; exact absurd rfl q
    · rw [if_neg (fun q => l1 q.2)] at k0
      refine V131 S (fun q => ?_) (fun _ _ => k0) (fun _ q => ?_)
      · rw [m9, k1] at q; exact absurd rfl q
      · rw [lg0] at q; exact absurd (wi.mp q) l1
  · rw [if_neg (fun q => k1 q.1)] at k0
    refine V131 S (fun _ => k0) (fun q => ?_) (fun q => ?_) <;> (rw [m9] at q; exact absurd ((nI_eq (by omega) (by decide)).mp q) k1)
theorem c132 (S : SK h) (m : MT h ch n i) (k0 : Q (some (.int (if tkd ch n i = 1 ∧ tvl ch n i = 27 then nI 1 else nI 0))) h) : WP 132 0 [some (.ref 35)] [] h Q := by
  have t4 := tk_le (ch := ch) (n := n) (i := i)
  have m9 := m.1
  by_cases k1 : tkd ch n i = 1
  · have wi := word_i (w := wCL) (v := 27) (by decide) (by decide) (by decide) m k1 (tk1w k1).2.2.2.2.1
    by_cases l1 : tvl ch n i = 27
    · rw [if_pos ⟨k1, l1⟩] at k0
      have e := wi.mpr l1
      refine V132 S (fun q => ?_) (fun _ q => ?_) (fun _ _ => k0)
      · rw [m9, k1] at q; exact absurd rfl q
      · rw [lg0, e] at q; exact absurd rfl q
    · rw [if_neg (fun q => l1 q.2)] at k0
      refine V132 S (fun q => ?_) (fun _ _ => k0) (fun _ q => ?_)
      · rw [m9, k1] at q; exact absurd rfl q
      · rw [lg0] at q; exact absurd (wi.mp q) l1
  · rw [if_neg (fun q => k1 q.1)] at k0
    refine V132 S (fun _ => k0) (fun q => ?_) (fun q => ?_) <;> (rw [m9] at q; exact absurd ((nI_eq (by omega) (by decide)).mp q) k1)
theorem c133 (S : SK h) (m : MT h ch n i) (k0 : Q (some (.int (if tkd ch n i = 1 ∧ tvl ch n i = 28 then nI 1 else nI 0))) h) : WP 133 0 [some (.ref 35)] [] h Q := by
  have t4 := tk_le (ch := ch) (n := n) (i := i)
  have m9 := m.1
  by_cases k1 : tkd ch n i = 1
  · have wi := word_i (w := wTU) (v := 28) (by decide) (by decide) (by decide) m k1 (tk1w k1).2.2.2.2.2
    by_cases l1 : tvl ch n i = 28
    · rw [if_pos ⟨k1, l1⟩] at k0
      have e := wi.mpr l1
      refine V133 S (fun q => ?_) (fun _ q => ?_) (fun _ _ => k0)
      · rw [m9, k1] at q; exact absurd rfl q
      · rw [lg0, e] at q; exact absurd rfl q
    · rw [if_neg (fun q => l1 q.2)] at k0
      refine V133 S (fun q => ?_) (fun _ _ => k0) (fun _ q => ?_)
      · rw [m9, k1] at q; exact absurd rfl q
      · rw [lg0] at q; exact absurd (wi.mp q) l1
  · rw [if_neg (fun q => k1 q.1)] at k0
    refine V133 S (fun _ => k0) (fun q => ?_) (fun q => ?_) <;> (rw [m9] at q; exact absurd ((nI_eq (by omega) (by decide)).mp q) k1)
end MWD
/-! what the class asks of its token -/
section CWD
variable {h : pm_H} {Q : Option Value → pm_H → Prop} {ch : Nat → Nat} {n i : Nat}
theorem tk3 (hk : tkd ch n i = 3) : tpl ch n i < n ∧ tvl ch n i = ch (tpl ch n i) ∧ ch (tpl ch n i) < 128 := by
  unfold tkd at hk
  split at hk
  · omega
  · split at hk
    · omega
    · rename_i h1 h2
      split at hk
      · split at hk <;> omega
      · rename_i h3
        split at hk
        · rename_i h4
          have := isG_t.mp h4
          refine ⟨by omega, ?_, by omega⟩
          unfold tvl
          rw [if_neg h2, if_neg h3]
        · omega
theorem tk2d (hk : tkd ch n i = 2) : tpl ch n i < n ∧ tvl ch n i = nv ch (tpl ch n i) (tnx ch n i - tpl ch n i) ∧ tnx ch n i - tpl ch n i ≤ 4 ∧ (∀ j, tpl ch n i ≤ j → j < tnx ch n i → 48 ≤ ch j ∧ ch j ≤ 57) ∧ tpl ch n i ≤ tnx ch n i ∧ tnx ch n i ≤ n := by
  unfold tkd at hk
  split at hk
  · omega
  · rename_i h1
    split at hk
    · omega
    · rename_i h2
      split at hk
      · rename_i h3
        split at hk
        · rename_i h4
          have e : tnx ch n i = sc isD ch n (tpl ch n i) := by unfold tnx; rw [if_neg h1, if_neg h2, if_pos h3]
          have b := sc_b (p := isD) (ch := ch) (show tpl ch n i ≤ n by omega)
          refine ⟨by omega, ?_, by rw [e]; exact h4, fun j a c => ?_, by rw [e]; exact b.1, by rw [e]; exact b.2⟩
          · unfold tvl; rw [if_neg h2, if_pos h3]
          · rw [e] at c
            exact isD_t.mp (scf_in isD ch (n - tpl ch n i) (tpl ch n i) j a c)
        · omega
      · split at hk <;> omega
theorem ct_l (c : CH h 3 ch n) (k1 : tkd ch n i = 1) (v : tvl ch n i < 26) : zI h 3 (tpl ch n i) = nI (tvl ch n i + 97) := by
  have tw := tk1w k1
  have tl := tk1l k1
  have e := tw.2.1 (tw.1.mp v)
  have b := tl.1 (tpl ch n i) (Nat.le_refl _) (by omega)
  rcases c (tpl ch n i) (by omega) with q | q
  · rw [q.2, e, Nat.sub_add_cancel b.1]
  · omega
theorem ct_s (c : CH h 3 ch n) (k3 : tkd ch n i = 3) : zI h 3 (tpl ch n i) = nI (tvl ch n i) := by
  have t3 := tk3 k3
  rcases c (tpl ch n i) t3.1 with q | q
  · rw [q.2, t3.2.1]
  · omega
/-- Tape.isWord -/
theorem c68t {w : Nat} (S : SK h) (hn : n ≤ 800) (hi : tpl ch n i ≤ tnx ch n i ∧ tnx ch n i ≤ n) (hw : w < 3) (ct : CT h ch n i) (k0 : Q (some (.int (if tkd ch n i = 1 ∧ tvl ch n i = 26 + w then nI 1 else nI 0))) h) : WP 68 0 [some (.ref 2), some (.retAddr w), none] [] h Q := by
  obtain ⟨r3, r4, r5, r6⟩ := ct
  have t4 := tk_le (ch := ch) (n := n) (i := i)
  refine c68 S hn (kd := tkd ch n i) (by omega) hi.1 hi.2 hw r6 (fun k1 j a b => by have := (tk1l k1).1 j a b; omega) r3 r4 r5 ?_
  by_cases k1 : tkd ch n i = 1
  · have tw := tk1w k1
    have key : spl ch (tpl ch n i) (tnx ch n i) (pm_str w) = true ↔ tvl ch n i = 26 + w := by
      have h3 : w = 0 ∨ w = 1 ∨ w = 2 := by omega
      rcases h3 with rfl | rfl | rfl
      · exact ⟨fun q => tw.2.2.2.1.mpr ⟨spl1 (by decide) q, q⟩, fun q => (tw.2.2.2.1.mp q).2⟩
      · exact ⟨fun q => tw.2.2.2.2.1.mpr ⟨spl1 (by decide) q, q⟩, fun q => (tw.2.2.2.2.1.mp q).2⟩
      · exact ⟨fun q => tw.2.2.2.2.2.mpr ⟨spl1 (by decide) q, q⟩, fun q => (tw.2.2.2.2.2.mp q).2⟩
    by_cases v : tvl ch n i = 26 + w
    · rw [if_pos ⟨k1, key.mpr v⟩]
      rw [if_pos ⟨k1, v⟩] at k0
      exact k0
    · rw [if_neg (fun q => v (key.mp q.2))]
      rw [if_neg (fun q => v q.2)] at k0
      exact k0
  · rw [if_neg (fun q => k1 q.1)]
    rw [if_neg (fun q => k1 q.1)] at k0
    exact k0
/-- Tape.number -/
theorem c69t (S : SK h) (hn : n ≤ 800) (k2 : tkd ch n i = 2) (ct : CT h ch n i) (k0 : Q (some (.int (nI (tvl ch n i)))) h) : WP 69 0 [some (.ref 2), none, none] [] h Q := by
  obtain ⟨r3, r4, r5, r6⟩ := ct
  have d := tk2d k2
  rw [k2] at r4
  rw [d.2.1] at k0
  exact c69 S hn d.2.2.2.2.1 d.2.2.2.2.2 d.2.2.1 r6 d.2.2.2.1 r3 r4 r5 k0
end CWD

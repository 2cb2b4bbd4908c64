/-- of the first k rights: the one that rules -/
def mayF (nm fr to_ tl : Nat → Int32) (x1 x3 x4 : Int32) : Nat → Option Nat
  | 0 => none
  | k + 1 => if nm k = x1 ∧ ¬ x3 < fr k ∧ ¬ to_ k < x3 ∧ ¬ x4 < tl k ∧ (∀ j, mayF nm fr to_ tl x1 x3 x4 k = some j → ¬ tl k < tl j) then some k else mayF nm fr to_ tl x1 x3 x4 k
theorem mayF_lt {nm fr to_ tl : Nat → Int32} {x1 x3 x4 : Int32} : ∀ {k j : Nat}, mayF nm fr to_ tl x1 x3 x4 k = some j → j < k
  | k + 1, j, h => by
    unfold mayF at h
    split at h
    · cases h; omega
    · have := mayF_lt h
      omega
def mayV (r : Option Nat) (d : Int32) (f : Nat → Int32) : Int32 := match r with
  | none => d
  | some j => f j
section MAY
variable {h : pm_H} {Q : Option Value → pm_H → Prop} {x1 x2 x3 : Int32}
set_option maxHeartbeats 2000000 in
theorem c48L (S : SK h) {n : Nat} (hn : n ≤ 60) (e : zI h 27 5 = nI n) (ht : ∀ j, j < n → ∃ t, t < 10000 ∧ zI h 32 j = nI t) (k0 : Q (some (.int (mayV (mayF (zI h 28) (zI h 30) (zI h 31) (zI h 32) x1 x2 x3 n) (Int32.ofInt 0) (zI h 29)))) h) :
    ∀ (m k : Nat) (d7 : Option Value), k + m = n → WP 48 9 [some (.ref 27), some (.int x1), some (.int x2), some (.int x3), some (.int (mayV (mayF (zI h 28) (zI h 30) (zI h 31) (zI h 32) x1 x2 x3 k) (Int32.ofInt 0) (zI h 29))), some (.int (mayV (mayF (zI h 28) (zI h 30) (zI h 31) (zI h 32) x1 x2 x3 k) (Int32.ofInt (-1)) (zI h 32))), some (.int (nI k)), d7] [] h Q := by
  intro m
  induction m with
  | zero =>
    intro k d7 hk
    obtain rfl : k = n := by omega
    have c0 : zI h 27 5 ≤ nI k := by rw [e]; exact nI_le (Nat.le_refl _) (by omega)
    refine V48L S (fun _ => k0) ?_ ?_ ?_ ?_ ?_ ?_ ?_ ?_ ?_ ?_ ?_ ?_ ?_ <;> (intro c; exact absurd c0 c)
  | succ m ih =>
    intro k d7 hk
    have c0 : ¬ zI h 27 5 ≤ nI k := by rw [e]; exact nI_ge (by omega) (by omega)
    have hc : (nI k).toNatClampNeg = k := nI_clamp (by omega)
    have h1 : nI k + Int32.ofInt 1 = nI (k + 1) := nI_1 k
    have hv : vp_in (nI k) 60 := vp_in_nI (by omega) (by decide)
    have no : ¬ (zI h 28 k = x1 ∧ ¬ x2 < zI h 30 k ∧ ¬ zI h 31 k < x2 ∧ ¬ x3 < zI h 32 k ∧ (∀ j, mayF (zI h 28) (zI h 30) (zI h 31) (zI h 32) x1 x2 x3 k = some j → ¬ zI h 32 k < zI h 32 j)) → ∀ d, WP 48 9 [some (.ref 27), some (.int x1), some (.int x2), some (.int x3), some (.int (mayV (mayF (zI h 28) (zI h 30) (zI h 31) (zI h 32) x1 x2 x3 k) (Int32.ofInt 0) (zI h 29))), some (.int (mayV (mayF (zI h 28) (zI h 30) (zI h 31) (zI h 32) x1 x2 x3 k) (Int32.ofInt (-1)) (zI h 32))), some (.int (nI k + Int32.ofInt 1)), d] [] h Q := by
      intro q d
      have := ih (k + 1) d (by omega)
      rw [show mayF (zI h 28) (zI h 30) (zI h 31) (zI h 32) x1 x2 x3 (k + 1) = mayF (zI h 28) (zI h 30) (zI h 31) (zI h 32) x1 x2 x3 k from if_neg q] at this
      rw [h1]
      exact this
    refine V48L S (fun c => absurd c c0) ?_ ?_ ?_ ?_ ?_ ?_ ?_ ?_ ?_ ?_ ?_ ?_ ?_ <;> intros <;> first
      | exact hv
      | (refine no (fun q => ?_) _; simp only [hc] at *; obtain ⟨q1, q2, q3, q4, q5⟩ := q; contradiction)
      | skip
    · rename_i a1 a2 a3 a4 a5 a6
      refine no (fun q => ?_) _
      rw [hc] at a6
      obtain ⟨q1, q2, q3, q4, q5⟩ := q
      obtain ⟨t, t1, t2⟩ := ht k (by omega)
      cases hr : mayF (zI h 28) (zI h 30) (zI h 31) (zI h 32) x1 x2 x3 k with
      | none =>
        rw [hr, t2] at a6
        exact absurd a6 (by show ¬ nI t < Int32.ofInt (-1); rw [lt_oi (by decide) (by decide), nI_toInt (by omega)]; omega)
      | some j =>
        rw [hr] at a6
        exact q5 j hr a6
    · rename_i a1 a2 a3 a4 a5 a6
      rw [hc] at *
      have := ih (k + 1) (some (.int (Int32.ofInt 1))) (by omega)
      rw [show mayF (zI h 28) (zI h 30) (zI h 31) (zI h 32) x1 x2 x3 (k + 1) = some k from if_pos ⟨a2, a3, a4, a5, fun j hj => by rw [hj] at a6; exact a6⟩] at this
      rw [h1]
      exact this
end MAY
section MAY2
variable {h : pm_H} {Q : Option Value → pm_H → Prop} {x1 x2 x3 x4 : Int32}
/-- what the answer is, by the right that rules -/
def mayA (r : Option Nat) (x2 : Int32) (rk : Nat → Int32) : Int32 := match r with
  | none => Int32.ofInt 1
  | some j => if x2 < rk j then Int32.ofInt 0 else Int32.ofInt 1
set_option maxHeartbeats 2000000 in
theorem c177L (S : SK h) {n : Nat} (hn : n ≤ 60) (e : zI h 35 42 = nI n) (k0 : Q (some (.int (mayA (mayF (zI h 57) (zI h 59) (zI h 60) (zI h 61) x1 x3 x4 n) x2 (zI h 58)))) h) :
    ∀ (m k : Nat), k + m = n → WP 177 57 [some (.ref 35), some (.int x1), some (.int x2), some (.int x3), some (.int x4), some (.int (mayV (mayF (zI h 57) (zI h 59) (zI h 60) (zI h 61) x1 x3 x4 k) (Int32.ofInt (-1)) nI)), some (.int (nI k))] [] h Q := by
  intro m
  induction m with
  | zero =>
    intro k hk
    obtain rfl : k = n := by omega
    have c0 : zI h 35 42 ≤ nI k := by rw [e]; exact nI_le (Nat.le_refl _) (by omega)
    cases hr : mayF (zI h 57) (zI h 59) (zI h 60) (zI h 61) x1 x3 x4 k with
    | none =>
      rw [hr] at k0
      have c1 : mayV (none : Option Nat) (Int32.ofInt (-1)) nI < 0 := by decide
      refine V177L S (fun _ _ => k0) (fun _ d => absurd c1 d) (fun _ d => absurd c1 d) (fun _ d => absurd c1 d) ?_ ?_ ?_ ?_ ?_ ?_ ?_ ?_ ?_ ?_ ?_ ?_ ?_ <;> (intro c; exact absurd c0 c)
    | some j =>
      rw [hr] at k0
      have hj := mayF_lt hr
      have c1 : ¬ mayV (some j) (Int32.ofInt (-1)) nI < 0 := nI_pos (by omega)
      have hc : (mayV (some j) (Int32.ofInt (-1)) nI).toNatClampNeg = j := nI_clamp (by omega)
      have hv : vp_in (mayV (some j) (Int32.ofInt (-1)) nI) 60 := vp_in_nI (n := j) (by omega) (by decide)
      refine V177L S (fun _ d => absurd d c1) (fun _ _ => hv) (fun _ _ d => ?_) (fun _ _ d => ?_) ?_ ?_ ?_ ?_ ?_ ?_ ?_ ?_ ?_ ?_ ?_ ?_ ?_
      · rw [hc] at d
        rw [show mayA (some j) x2 (zI h 58) = Int32.ofInt 0 from if_pos d] at k0
        exact k0
      · rw [hc] at d
        rw [show mayA (some j) x2 (zI h 58) = Int32.ofInt 1 from if_neg d] at k0
        exact k0
      all_goals (intro c; exact absurd c0 c)
  | succ m ih =>
    intro k hk
    have c0 : ¬ zI h 35 42 ≤ nI k := by rw [e]; exact nI_ge (by omega) (by omega)
    have hc : (nI k).toNatClampNeg = k := nI_clamp (by omega)
    have h1 : nI k + Int32.ofInt 1 = nI (k + 1) := nI_1 k
    have hv : vp_in (nI k) 60 := vp_in_nI (by omega) (by decide)
    have no : ¬ (zI h 57 k = x1 ∧ ¬ x3 < zI h 59 k ∧ ¬ zI h 60 k < x3 ∧ ¬ x4 < zI h 61 k ∧ (∀ j, mayF (zI h 57) (zI h 59) (zI h 60) (zI h 61) x1 x3 x4 k = some j → ¬ zI h 61 k < zI h 61 j)) → WP 177 57 [some (.ref 35), some (.int x1), some (.int x2), some (.int x3), some (.int x4), some (.int (mayV (mayF (zI h 57) (zI h 59) (zI h 60) (zI h 61) x1 x3 x4 k) (Int32.ofInt (-1)) nI)), some (.int (nI k + Int32.ofInt 1))] [] h Q := by
      intro q
      have := ih (k + 1) (by omega)
      rw [show mayF (zI h 57) (zI h 59) (zI h 60) (zI h 61) x1 x3 x4 (k + 1) = mayF (zI h 57) (zI h 59) (zI h 60) (zI h 61) x1 x3 x4 k from if_neg q] at this
      rw [h1]
      exact this
    have yes : (zI h 57 k = x1 ∧ ¬ x3 < zI h 59 k ∧ ¬ zI h 60 k < x3 ∧ ¬ x4 < zI h 61 k ∧ (∀ j, mayF (zI h 57) (zI h 59) (zI h 60) (zI h 61) x1 x3 x4 k = some j → ¬ zI h 61 k < zI h 61 j)) → WP 177 57 [some (.ref 35), some (.int x1), some (.int x2), some (.int x3), some (.int x4), some (.int (nI k)), some (.int (nI k + Int32.ofInt 1))] [] h Q := by
      intro q
      have := ih (k + 1) (by omega)
      rw [show mayF (zI h 57) (zI h 59) (zI h 60) (zI h 61) x1 x3 x4 (k + 1) = some k from if_pos q] at this
      rw [h1]
      exact this
    have neg : mayV (mayF (zI h 57) (zI h 59) (zI h 60) (zI h 61) x1 x3 x4 k) (Int32.ofInt (-1)) nI < 0 → mayF (zI h 57) (zI h 59) (zI h 60) (zI h 61) x1 x3 x4 k = none := by
      intro q
      cases hr : mayF (zI h 57) (zI h 59) (zI h 60) (zI h 61) x1 x3 x4 k with
      | none => rfl
      | some j =>
        have hj := mayF_lt hr
        rw [hr] at q
        exact absurd q (nI_pos (n := j) (by omega))
    have pos : ¬ mayV (mayF (zI h 57) (zI h 59) (zI h 60) (zI h 61) x1 x3 x4 k) (Int32.ofInt (-1)) nI < 0 → ∃ j, j < k ∧ mayF (zI h 57) (zI h 59) (zI h 60) (zI h 61) x1 x3 x4 k = some j ∧ mayV (mayF (zI h 57) (zI h 59) (zI h 60) (zI h 61) x1 x3 x4 k) (Int32.ofInt (-1)) nI = nI j := by
      intro q
      cases hr : mayF (zI h 57) (zI h 59) (zI h 60) (zI h 61) x1 x3 x4 k with
      | none => rw [hr] at q; exact absurd (show Int32.ofInt (-1) < 0 by decide) q
      | some j => exact ⟨j, mayF_lt hr, rfl, rfl⟩
    refine V177L S (fun c => absurd c c0) (fun c => absurd c c0) (fun c => absurd c c0) (fun c => absurd c c0) ?_ ?_ ?_ ?_ ?_ ?_ ?_ ?_ ?_ ?_ ?_ ?_ ?_ <;> intros <;> first
      | exact hv
      | (refine no (fun q => ?_); simp only [hc] at *; obtain ⟨q1, q2, q3, q4, q5⟩ := q; contradiction)
      | skip
    · rename_i a1 a2 a3 a4 a5 a6
      rw [hc] at a2 a3 a4 a5
      exact yes ⟨a2, a3, a4, a5, fun j hj => by rw [neg a6] at hj; cases hj⟩
    · rename_i a1 a2 a3 a4 a5 a6
      obtain ⟨j, j1, j2, j3⟩ := pos a6
      rw [j3]
      exact vp_in_nI (by omega) (by decide)
    · rename_i a1 a2 a3 a4 a5 a6 a7
      obtain ⟨j, j1, j2, j3⟩ := pos a6
      rw [j3, hc, nI_clamp (by omega)] at a7
      exact no (fun q => q.2.2.2.2 j j2 a7)
    · rename_i a1 a2 a3 a4 a5 a6 a7
      obtain ⟨j, j1, j2, j3⟩ := pos a6
      rw [j3, hc, nI_clamp (by omega)] at a7
      rw [hc] at a2 a3 a4 a5
      exact yes ⟨a2, a3, a4, a5, fun i hi => by rw [j2] at hi; cases hi; exact a7⟩
end MAY2

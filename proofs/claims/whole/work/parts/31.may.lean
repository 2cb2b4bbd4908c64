/-- of the first k rights: the one that rules -/
def mayF (nm fr to_ tl : Nat → Int32) (x1 x3 x4 : Int32) : Nat → Option Nat
  | 0 => none
  | k + 1 => if nm k = x1 ∧ ¬ x3 < fr k ∧ ¬ to_ k < x3 ∧ ¬ x4 < tl k ∧ (∀ j, mayF nm fr to_ tl x1 x3 x4 k = some j → ¬ tl k < tl j) then some k else mayF nm fr to_ tl x1 x3 x4 k
theorem mayF_lt {nm fr to_ tl : Nat → Int32} {x1 x3 x4 : Int32} : ∀ {k j : Nat}, mayF nm fr to_ tl x1 x3 x4 k = some j → j < k
  | k + 1, j, h => by
    unfold mayF at h
    split at h
    · cases h; omega
    · have := mayF_lt h
      omega
def mayV (r : Option Nat) (d : Int32) (f : Nat → Int32) : Int32 := match r with
  | none => d
  | some j => f j
section MAY
variable {h : pm_H} {Q : Option Value → pm_H → Prop} {x1 x2 x3 : Int32}
set_option maxHeartbeats 2000000 in
theorem c48L (S : SK h) {n : Nat} (hn : n ≤ 60) (e : zI h 27 5 = nI n) (ht : ∀ j, j < n → ∃ t, t < 10000 ∧ zI h 32 j = nI t) (k0 : Q (some (.int (mayV (mayF (zI h 28) (zI h 30) (zI h 31) (zI h 32) x1 x2 x3 n) (Int32.ofInt 0) (zI h 29)))) h) :
    ∀ (m k : Nat) (d7 : Option Value), k + m = n → WP 48 9 [some (.ref 27), some (.int x1), some (.int x2), some (.int x3), some (.int (mayV (mayF (zI h 28) (zI h 30) (zI h 31) (zI h 32) x1 x2 x3 k) (Int32.ofInt 0) (zI h 29))), some (.int (mayV (mayF (zI h 28) (zI h 30) (zI h 31) (zI h 32) x1 x2 x3 k) (Int32.ofInt (-1)) (zI h 32))), some (.int (nI k)), d7] [] h Q := by
  intro m
  induction m with
  | zero =>
    intro k d7 hk
    obtain rfl : k = n := by omega
    have c0 : zI h 27 5 ≤ nI k := by rw [e]; exact nI_le (Nat.le_refl _) (by omega)
    refine V48L S (fun _ => k0) ?_ ?_ ?_ ?_ ?_ ?_ ?_ ?_ ?_ ?_ ?_ ?_ ?_ <;> (intro c; exact absurd c0 c)
  | succ m ih =>
    intro k d7 hk
    have c0 : ¬ zI h 27 5 ≤ nI k := by rw [e]; exact nI_ge (by omega) (by omega)
    have hc : (nI k).toNatClampNeg = k := nI_clamp (by omega)
    have h1 : nI k + Int32.ofInt 1 = nI (k + 1) := nI_1 k
    have hv : vp_in (nI k) 60 := vp_in_nI (by omega) (by decide)
    have no : ¬ (zI h 28 k = x1 ∧ ¬ x2 < zI h 30 k ∧ ¬ zI h 31 k < x2 ∧ ¬ x3 < zI h 32 k ∧ (∀ j, mayF (zI h 28) (zI h 30) (zI h 31) (zI h 32) x1 x2 x3 k = some j → ¬ zI h 32 k < zI h 32 j)) → ∀ d, WP 48 9 [some (.ref 27), some (.int x1), some (.int x2), some (.int x3), some (.int (mayV (mayF (zI h 28) (zI h 30) (zI h 31) (zI h 32) x1 x2 x3 k) (Int32.ofInt 0) (zI h 29))), some (.int (mayV (mayF (zI h 28) (zI h 30) (zI h 31) (zI h 32) x1 x2 x3 k) (Int32.ofInt (-1)) (zI h 32))), some (.int (nI k + Int32.ofInt 1)), d] [] h Q := by
      intro q d
      have := ih (k + 1) d (by omega)
      rw [show mayF (zI h 28) (zI h 30) (zI h 31) (zI h 32) x1 x2 x3 (k + 1) = mayF (zI h 28) (zI h 30) (zI h 31) (zI h 32) x1 x2 x3 k from if_neg q] at this
      rw [h1]
      exact this
    refine V48L S (fun c => absurd c c0) ?_ ?_ ?_ ?_ ?_ ?_ ?_ ?_ ?_ ?_ ?_ ?_ ?_ <;> intros <;> first
      | exact hv
      | (refine no (fun q => ?_) _; simp only [hc] at *; obtain ⟨q1, q2, q3, q4, q5⟩ := q; contradiction)
      | skip
    · rename_i a1 a2 a3 a4 a5 a6
      refine no (fun q => ?_) _
      rw [hc] at a6
      obtain ⟨q1, q2, q3, q4, q5⟩ := q
      obtain ⟨t, t1, t2⟩ := ht k (by omega)
      cases hr : mayF (zI h 28) (zI h 30) (zI h 31) (zI h 32) x1 x2 x3 k with
      | none =>
        rw [hr, t2] at a6
        exact absurd a6 (by show ¬ nI t < Int32.ofInt (-1); rw [lt_oi (by decide) (by decide), nI_toInt (by omega)]; omega)
      | some j =>
        rw [hr] at a6
        exact q5 j hr a6
    · rename_i a1 a2 a3 a4 a5 a6
      rw [hc] at *
      have := ih (k + 1) (some (.int (Int32.ofInt 1))) (by omega)
      rw [show mayF (zI h 28) (zI h 30) (zI h 31) (zI h 32) x1 x2 x3 (k + 1) = some k from if_pos ⟨a2, a3, a4, a5, fun j hj => by rw [hj] at a6; exact a6⟩] at this
      rw [h1]
      exact this
end MAY

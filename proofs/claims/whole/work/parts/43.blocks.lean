/-! the blocks of a row of colours -/
theorem gD_l {l m : List Nat} {k : Nat} (h : k < l.length) : (l ++ m).getD k 0 = l.getD k 0 := by
  rw [List.getD_eq_getElem?_getD, List.getD_eq_getElem?_getD, List.getElem?_append_left h]
theorem gD_r {l m : List Nat} {k : Nat} (h : l.length ≤ k) : (l ++ m).getD k 0 = m.getD (k - l.length) 0 := by
  rw [List.getD_eq_getElem?_getD, List.getD_eq_getElem?_getD, List.getElem?_append_right h]
def bkn (l : List Nat) : Nat := (bk_ends 0 l).length
def bke (l : List Nat) (i : Nat) : Nat := (bk_ends 0 l).getD i 0
def bkc (l : List Nat) (i : Nat) : Nat := l.getD (bke l i - 1) 0
def bkm (l : List Nat) (i : Nat) : Nat := bke l i - (if i = 0 then 0 else bke l (i - 1))
theorem bk_ne : ∀ (l : List Nat) (n : Nat), l ≠ [] → bk_ends n l ≠ []
  | [], _, h => absurd rfl h
  | [a], n, _ => by unfold bk_ends; exact List.cons_ne_nil _ _
  | a :: b :: r, n, _ => by
    unfold bk_ends
    split
    · exact bk_ne (b :: r) _ (List.cons_ne_nil _ _)
    · exact List.cons_ne_nil _ _
theorem bk_snoc : ∀ (l : List Nat) (n c : Nat), l ≠ [] → bk_ends n (l ++ [c]) = if l.getD (l.length - 1) 0 = c then (bk_ends n l).dropLast ++ [n + l.length + 1] else bk_ends n l ++ [n + l.length + 1]
  | [], _, _, h => absurd rfl h
  | [a], n, c, _ => by
    simp only [List.cons_append, List.nil_append, bk_ends, List.length_cons, List.length_nil, List.getD_cons_zero, List.dropLast, Nat.zero_add, Nat.sub_self]
  | a :: b :: r, n, c, _ => by
    have ih := bk_snoc (b :: r) (n + 1) c (List.cons_ne_nil _ _)
    have hn := bk_ne (b :: r) (n + 1) (List.cons_ne_nil _ _)
    have e1 : (a :: b :: r).getD ((a :: b :: r).length - 1) 0 = (b :: r).getD ((b :: r).length - 1) 0 := by simp
    have e2 : n + (a :: b :: r).length + 1 = n + 1 + (b :: r).length + 1 := by simp; omega
    rw [e1, e2]
    show bk_ends n (a :: b :: (r ++ [c])) = _
    rw [show bk_ends n (a :: b :: (r ++ [c])) = if a = b then bk_ends (n + 1) ((b :: r) ++ [c]) else (n + 1) :: bk_ends (n + 1) ((b :: r) ++ [c]) from by rw [bk_ends]; rfl]
    rw [show bk_ends n (a :: b :: r) = if a = b then bk_ends (n + 1) (b :: r) else (n + 1) :: bk_ends (n + 1) (b :: r) from by rw [bk_ends]]
    rw [ih]
    by_cases h1 : a = b <;> by_cases h2 : (b :: r).getD ((b :: r).length - 1) 0 = c <;> simp only [h1, h2, if_true, if_false]
    · rw [List.dropLast_cons_of_ne_nil hn]; rfl
    · rfl
/-- all that is used of blocks -/
def bk_all (l : List Nat) : Prop := 1 ≤ bkn l ∧ bkn l ≤ l.length ∧ bke l (bkn l - 1) = l.length ∧ (∀ i, i < bkn l → 1 ≤ bke l i ∧ bke l i ≤ l.length) ∧ ∀ i, i + 1 < bkn l → bke l i < bke l (i + 1)
theorem bk_one (c : Nat) : bkn [c] = 1 ∧ bke [c] 0 = 1 := ⟨rfl, rfl⟩
theorem bk_same {l : List Nat} {c : Nat} (hl : l ≠ []) (hc : l.getD (l.length - 1) 0 = c) : bkn (l ++ [c]) = bkn l ∧ (∀ i, i + 1 < bkn l → bke (l ++ [c]) i = bke l i) ∧ bke (l ++ [c]) (bkn l - 1) = l.length + 1 := by
  have hn := bk_ne l 0 hl
  have hp : 1 ≤ (bk_ends 0 l).length := by
    rcases hq : bk_ends 0 l with _ | ⟨x, y⟩
    · exact absurd hq hn
    · simp
  have e := bk_snoc l 0 c hl
  rw [if_pos hc] at e
  simp only [bkn, bke, e]
  refine ⟨by simp; omega, fun i hi => ?_, ?_⟩
  · rw [gD_l (by simp; omega)]
    simp only [List.getD_eq_getElem?_getD]
    rw [List.getElem?_dropLast, if_pos (by omega)]
  · rw [gD_r (by simp)]
    simp
theorem bk_diff {l : List Nat} {c : Nat} (hl : l ≠ []) (hc : ¬ l.getD (l.length - 1) 0 = c) : bkn (l ++ [c]) = bkn l + 1 ∧ (∀ i, i < bkn l → bke (l ++ [c]) i = bke l i) ∧ bke (l ++ [c]) (bkn l) = l.length + 1 := by
  have e := bk_snoc l 0 c hl
  rw [if_neg hc] at e
  simp only [bkn, bke, e]
  refine ⟨by simp, fun i hi => ?_, ?_⟩
  · rw [gD_l hi]
  · rw [gD_r (Nat.le_refl _)]
    simp
theorem bk_take {l : List Nat} {k : Nat} (hk : k < l.length) : l.take (k + 1) = l.take k ++ [l.getD k 0] := by
  rw [List.take_add_one, List.getElem?_eq_getElem hk]
  simp [List.getD_eq_getElem?_getD, hk]
theorem bk_allk {l : List Nat} : ∀ k, 1 ≤ k → k ≤ l.length → bk_all (l.take k)
  | 0, h, _ => absurd h (by decide)
  | 1, _, h2 => by
    rw [bk_take (by omega)]
    refine ⟨Nat.le_refl _, Nat.le_refl _, rfl, fun i hi => ?_, fun i hi => ?_⟩
    · have : i < 1 := hi
      obtain rfl : i = 0 := by omega
      exact ⟨Nat.le_refl _, Nat.le_refl _⟩
    · have : i + 1 < 1 := hi
      omega
  | k + 2, _, h2 => by
    have ih := bk_allk (l := l) (k + 1) (by omega) (by omega)
    obtain ⟨a1, a2, a3, a4, a5⟩ := ih
    have hlen : (l.take (k + 1)).length = k + 1 := by simp; omega
    have hne : l.take (k + 1) ≠ [] := fun q => by rw [q] at hlen; simp at hlen
    rw [bk_take (by omega)]
    by_cases hc : (l.take (k + 1)).getD ((l.take (k + 1)).length - 1) 0 = l.getD (k + 1) 0
    · obtain ⟨b1, b2, b3⟩ := bk_same hne hc
      rw [hlen] at a2 a3 a4 b3
      refine ⟨by rw [b1]; exact a1, by rw [b1, List.length_append, hlen]; omega, by rw [b1, b3, List.length_append, hlen]; rfl, fun i hi => ?_, fun i hi => ?_⟩
      · rw [b1] at hi
        rw [List.length_append, hlen]
        by_cases hi' : i + 1 < bkn (l.take (k + 1))
        · have := a4 i hi; rw [b2 i hi']; omega
        · obtain rfl : i = bkn (l.take (k + 1)) - 1 := by omega
          rw [b3]; simp
      · rw [b1] at hi
        rw [b2 i hi]
        by_cases hi' : i + 1 + 1 < bkn (l.take (k + 1))
        · rw [b2 _ hi']; exact a5 i hi
        · have e : i + 1 = bkn (l.take (k + 1)) - 1 := by omega
          rw [e, b3]
          have := (a4 i (by omega)).2
          omega
    · obtain ⟨b1, b2, b3⟩ := bk_diff hne hc
      rw [hlen] at a2 a3 a4 b3
      refine ⟨by rw [b1]; omega, by rw [b1, List.length_append, hlen]; simp; omega, by rw [b1, Nat.add_sub_cancel, b3, List.length_append, hlen]; rfl, fun i hi => ?_, fun i hi => ?_⟩
      · rw [b1] at hi
        rw [List.length_append, hlen]
        by_cases hi' : i < bkn (l.take (k + 1))
        · have := a4 i hi'; rw [b2 i hi']; omega
        · obtain rfl : i = bkn (l.take (k + 1)) := by omega
          rw [b3]; simp
      · rw [b1] at hi
        rw [b2 i (by omega)]
        by_cases hi' : i + 1 < bkn (l.take (k + 1))
        · rw [b2 _ hi']; exact a5 i hi'
        · have e : i + 1 = bkn (l.take (k + 1)) := by omega
          rw [e, b3]
          have := (a4 i (by omega)).2
          omega
theorem bk_al {l : List Nat} (h : 1 ≤ l.length) : bk_all l := by
  have := bk_allk (l := l) l.length h (Nat.le_refl _)
  rwa [List.take_length] at this
/-- blocks of one more pick -/
theorem bk_S1 (c : Nat) : bkn [c] = 1 ∧ bkc [c] 0 = c ∧ bkm [c] 0 = 1 := ⟨rfl, rfl, rfl⟩
theorem bk_S2 {l : List Nat} {c : Nat} (hl : 1 ≤ l.length) (hc : l.getD (l.length - 1) 0 = c) : bkn (l ++ [c]) = bkn l ∧ (∀ i, i < bkn l → bkc (l ++ [c]) i = bkc l i) ∧ (∀ i, i < bkn l → bkm (l ++ [c]) i = if i = bkn l - 1 then bkm l i + 1 else bkm l i) := by
  obtain ⟨a1, a2, a3, a4, a5⟩ := bk_al hl
  obtain ⟨b1, b2, b3⟩ := bk_same (c := c) (by intro q; rw [q] at hl; simp at hl) hc
  refine ⟨b1, fun i hi => ?_, fun i hi => ?_⟩
  · by_cases hi' : i + 1 < bkn l
    · unfold bkc
      rw [b2 i hi', gD_l (by have := a4 i hi; omega)]
    · obtain rfl : i = bkn l - 1 := by omega
      unfold bkc
      rw [b3, a3, gD_r (by omega), hc]
      simp
  · by_cases hi' : i + 1 < bkn l
    · rw [if_neg (by omega)]
      unfold bkm
      rw [b2 i hi']
      by_cases h0 : i = 0
      · rw [if_pos h0, if_pos h0]
      · rw [if_neg h0, if_neg h0, b2 (i - 1) (by omega)]
    · rw [if_pos (by omega)]
      obtain rfl : i = bkn l - 1 := by omega
      unfold bkm
      rw [b3, a3]
      by_cases h0 : bkn l - 1 = 0
      · rw [if_pos h0, if_pos h0]; omega
      · rw [if_neg h0, if_neg h0, b2 _ (by omega)]
        have := (a4 (bkn l - 1 - 1) (by omega)).2
        omega
theorem bk_S3 {l : List Nat} {c : Nat} (hl : 1 ≤ l.length) (hc : ¬ l.getD (l.length - 1) 0 = c) : bkn (l ++ [c]) = bkn l + 1 ∧ (∀ i, i < bkn l → bkc (l ++ [c]) i = bkc l i) ∧ (∀ i, i < bkn l → bkm (l ++ [c]) i = bkm l i) ∧ bkc (l ++ [c]) (bkn l) = c ∧ bkm (l ++ [c]) (bkn l) = 1 := by
  obtain ⟨a1, a2, a3, a4, a5⟩ := bk_al hl
  obtain ⟨b1, b2, b3⟩ := bk_diff (c := c) (by intro q; rw [q] at hl; simp at hl) hc
  refine ⟨b1, fun i hi => ?_, fun i hi => ?_, ?_, ?_⟩
  · unfold bkc
    rw [b2 i hi, gD_l (by have := a4 i hi; omega)]
  · unfold bkm
    rw [b2 i hi]
    by_cases h0 : i = 0
    · rw [if_pos h0, if_pos h0]
    · rw [if_neg h0, if_neg h0, b2 (i - 1) (by omega)]
  · unfold bkc
    rw [b3, gD_r (by omega)]
    simp
  · unfold bkm
    rw [b3, if_neg (by omega), b2 _ (by omega), a3]
    omega

/-! INV holds behind the two constructors -/
theorem st_row : ∀ a, a < 76 → ∃ r : List (Option Nat), r.length ≤ 64 ∧ ∀ k, stR a k = r.getD k none := by
  intro a ha
  refine ⟨_, ?_, fun k => rfl⟩
  revert a
  decide +kernel
theorem sk0T : ∀ a, a < 76 → zT cb41 a = stT a := by decide +kernel
theorem sk0N : ∀ a, a < 76 → zN cb41 a = stN a := by decide +kernel
theorem sk0R : ∀ a, a < 76 → ∀ k, k < 64 → ((stR a k).isSome = true → zR cb41 a k = stR a k) := by decide +kernel
theorem sk0 : SK cb41 := by
  refine ⟨sk0T, sk0N, fun a k hk => ?_, by decide +kernel⟩
  by_cases ha : a < 76
  · by_cases hk2 : k < 64
    · exact sk0R a ha k hk2 hk
    · obtain ⟨r, r1, r2⟩ := st_row a ha
      rw [r2, gD_none (by omega)] at hk
      cases hk
  · rw [stR_n (by omega)] at hk; cases hk
set_option maxRecDepth 100000 in
theorem inv0e5 : zI cb41 5 = fun _ => 0 := rfl
set_option maxRecDepth 100000 in
theorem inv0e16 : zI cb41 16 = fun _ => 0 := rfl
theorem inv0 : INV cb41 := by
  refine ⟨sk0, ⟨by decide +kernel, by decide +kernel, by decide +kernel, ⟨100, by decide, by decide, by decide +kernel⟩, ⟨8, by decide, by decide +kernel⟩, by decide +kernel, by decide +kernel⟩, ⟨0, by decide, by decide +kernel, by decide +kernel, fun j hj => absurd hj (Nat.not_lt_zero _)⟩, ⟨0, by decide, by decide +kernel, by decide +kernel, fun j hj => absurd hj (Nat.not_lt_zero _)⟩, ⟨0, by decide, by decide +kernel, by decide +kernel, fun j hj => absurd hj (Nat.not_lt_zero _)⟩, ⟨0, by decide, by decide +kernel, by decide +kernel, fun j hj => absurd hj (Nat.not_lt_zero _)⟩, ⟨fun j => ⟨0, by decide, ?_⟩, fun j => ⟨0, by decide, ?_⟩⟩, ([], []), ⟨by decide, by decide, fun s hs => absurd hs List.not_mem_nil, fun s hs => absurd hs List.not_mem_nil⟩, ⟨8, by decide +kernel, ⟨Or.inl rfl, by decide +kernel⟩, by decide +kernel, by decide +kernel, by decide +kernel, 9, 10, by decide +kernel, ⟨Or.inr (Or.inl rfl), by decide +kernel⟩, by decide +kernel, by decide +kernel, by decide +kernel, ⟨Or.inr (Or.inr (Or.inl rfl)), by decide +kernel⟩, by decide +kernel, by decide +kernel, fun s hs => absurd hs (Nat.not_lt_zero _), fun s hs => absurd hs (Nat.not_lt_zero _)⟩, by decide +kernel, by decide +kernel, fun s hs => absurd hs (Nat.not_lt_zero _), fun s hs => absurd hs (Nat.not_lt_zero _)⟩
  · rw [inv0e5]; rfl
  · rw [inv0e16]; rfl
theorem zn0 : zn cb41 = 76 := by decide +kernel
theorem zk0 : zk cb41 ≤ 100000 := by decide +kernel
theorem znA : zn ca53 = 35 := by decide +kernel

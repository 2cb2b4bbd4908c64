/-! numbers: from Int32 to Nat, for simp -/
theorem oi_l (n : Nat) : Int32.ofInt (no_index (OfNat.ofNat n)) = nI n := rfl
theorem z_nI : (0 : Int32) = nI 0 := rfl
theorem nIA (a b : Nat) : nI a + nI b = nI (a + b) := nI_add a b
theorem nIM (a b : Nat) : nI a * nI b = nI (a * b) := pk_mul a b
theorem nIS {a b : Nat} (h : b ≤ a) : nI a - nI b = nI (a - b) := by
  have e : a = (a - b) + b := by omega
  rw [e, ← nIA, Nat.add_sub_cancel]
  exact Int32.add_sub_cancel _ _
theorem nIlt {a b : Nat} (ha : a < 2147483648) (hb : b < 2147483648) : nI a < nI b ↔ a < b := by rw [Int32.lt_iff_toInt_lt, nI_i ha, nI_i hb]; omega
theorem nIle {a b : Nat} (ha : a < 2147483648) (hb : b < 2147483648) : nI a ≤ nI b ↔ a ≤ b := by rw [Int32.le_iff_toInt_le, nI_i ha, nI_i hb]; omega
theorem nIeq {a b : Nat} (ha : a < 2147483648) (hb : b < 2147483648) : nI a = nI b ↔ a = b := nI_eq ha hb
theorem nIC {a : Nat} (ha : a < 2147483648) : (nI a).toNatClampNeg = a := nI_clamp ha
theorem vpI {a b : Nat} (ha : a < 2147483648) (hb : b < 2147483648) : vp_in (nI a) b ↔ a < b := by
  rw [vp_in_iff, nI_i ha]; omega

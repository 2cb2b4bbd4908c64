/-! BEST DYEING: sums, sets -/
/-- sum over the first n places that a set has -/
def su (q : Nat → Bool) (f : Nat → Nat) : Nat → Nat
  | 0 => 0
  | n + 1 => su q f n + if q n then f n else 0
theorem su_cg {q q' : Nat → Bool} {f f' : Nat → Nat} : ∀ {n : Nat}, (∀ p, p < n → q p = q' p ∧ (q p = true → f p = f' p)) → su q f n = su q' f' n
  | 0, _ => rfl
  | n + 1, h => by
    have ih := su_cg (n := n) (fun p hp => h p (by omega))
    obtain ⟨h1, h2⟩ := h n (by omega)
    rw [su, su, ih, ← h1]
    by_cases hq : q n = true
    · rw [if_pos hq, if_pos hq, h2 hq]
    · rw [if_neg hq, if_neg hq]
theorem su_sp {q q1 q2 : Nat → Bool} {f : Nat → Nat} : ∀ {n : Nat}, (∀ p, p < n → q p = (q1 p || q2 p) ∧ (q1 p && q2 p) = false) → su q f n = su q1 f n + su q2 f n
  | 0, _ => rfl
  | n + 1, h => by
    have ih := su_sp (f := f) (n := n) (fun p hp => h p (by omega))
    obtain ⟨h1, h2⟩ := h n (by omega)
    rw [su, su, su, ih, h1]
    cases hq1 : q1 n <;> cases hq2 : q2 n
    · simp
    · simp; omega
    · simp; omega
    · rw [hq1, hq2] at h2; cases h2
theorem su_le {q : Nat → Bool} {f : Nat → Nat} : ∀ {n m : Nat}, n ≤ m → su q f n ≤ su q f m
  | n, 0, h => by obtain rfl : n = 0 := by omega
                  exact Nat.le_refl _
  | n, m + 1, h => by
    by_cases e : n = m + 1
    · rw [e]; exact Nat.le_refl _
    · have := su_le (q := q) (f := f) (show n ≤ m by omega)
      rw [su.eq_2 q f m]
      omega
theorem su_0 {q : Nat → Bool} {f : Nat → Nat} : ∀ {n : Nat}, (∀ p, p < n → q p = true → f p = 0) → su q f n = 0
  | 0, _ => rfl
  | n + 1, h => by
    rw [su, su_0 (fun p hp => h p (by omega))]
    by_cases hq : q n = true
    · rw [if_pos hq, h n (by omega) hq]
    · rw [if_neg hq]
theorem su_pos {q : Nat → Bool} {f : Nat → Nat} {p : Nat} : ∀ {n : Nat}, p < n → q p = true → 0 < f p → 0 < su q f n
  | 0, h, _, _ => absurd h (Nat.not_lt_zero _)
  | n + 1, h, h1, h2 => by
    rw [su]
    by_cases e : p = n
    · subst e; rw [if_pos h1]; omega
    · have := su_pos (n := n) (by omega) h1 h2
      omega
theorem su_mu {q : Nat → Bool} {f : Nat → Nat} {c : Nat} : ∀ {n : Nat}, su q (fun p => c * f p) n = c * su q f n
  | 0 => rfl
  | n + 1 => by
    rw [su, su, su_mu, Nat.mul_add]
    by_cases hq : q n = true
    · rw [if_pos hq, if_pos hq]
    · rw [if_neg hq, if_neg hq]; rfl
theorem su_mono {q q' : Nat → Bool} {f f' : Nat → Nat} : ∀ {n : Nat}, (∀ p, p < n → (q p = true → q' p = true) ∧ f p ≤ f' p) → su q f n ≤ su q' f' n
  | 0, _ => Nat.le_refl _
  | n + 1, h => by
    have ih := su_mono (n := n) (fun p hp => h p (by omega))
    obtain ⟨h1, h2⟩ := h n (by omega)
    rw [su, su]
    by_cases hq : q n = true
    · rw [if_pos hq, if_pos (h1 hq)]; omega
    · rw [if_neg hq]; split <;> omega
/-- the number of a set -/
def mk (q : Nat → Bool) (n : Nat) : Nat := su q (fun p => 2 ^ p) n
theorem mk_lt (q : Nat → Bool) : ∀ n, mk q n < 2 ^ n
  | 0 => Nat.lt_succ_self 0
  | n + 1 => by
    have := mk_lt q n
    unfold mk at this ⊢
    rw [su, Nat.pow_succ]
    split <;> omega
theorem mk_tb (q : Nat → Bool) : ∀ n p, p < n → (mk q n).testBit p = q p
  | 0, p, h => absurd h (Nat.not_lt_zero _)
  | n + 1, p, h => by
    have l := mk_lt q n
    have e : mk q (n + 1) = mk q n + if q n then 2 ^ n else 0 := rfl
    rw [e]
    by_cases hp : p = n
    · subst hp
      by_cases hq : q p = true
      · rw [if_pos hq, Nat.add_comm, Nat.testBit_two_pow_add_eq, Nat.testBit_lt_two_pow l, hq]; rfl
      · rw [if_neg hq, Nat.add_zero, Nat.testBit_lt_two_pow l]
        cases hz : q p
        · rfl
        · exact absurd hz hq
    · by_cases hq : q n = true
      · rw [if_pos hq, Nat.add_comm, Nat.testBit_two_pow_add_gt (by omega)]; exact mk_tb q n p (by omega)
      · rw [if_neg hq, Nat.add_zero]; exact mk_tb q n p (by omega)
theorem mk_of {S n : Nat} (h : S < 2 ^ n) : mk S.testBit n = S := by
  apply Nat.eq_of_testBit_eq
  intro i
  by_cases hi : i < n
  · exact mk_tb _ n i hi
  · have := Nat.pow_le_pow_right (n := 2) (by decide) (show n ≤ i by omega)
    rw [Nat.testBit_lt_two_pow (Nat.lt_of_lt_of_le (mk_lt _ n) this), Nat.testBit_lt_two_pow (Nat.lt_of_lt_of_le h this)]
/-- taking a part of a set away -/
theorem sb_tb {S g n : Nat} (hS : S < 2 ^ n) (hg : g &&& S = g) : g ≤ S ∧ S - g = mk (fun p => S.testBit p && !g.testBit p) n := by
  have gl : g ≤ S := by have := @Nat.and_le_right g S; omega
  have sub : ∀ p, g.testBit p = true → S.testBit p = true := fun p hp => by
    have := congrArg (fun x => x.testBit p) hg
    simp only [Nat.testBit_and, hp, Bool.true_and] at this
    exact this
  refine ⟨gl, ?_⟩
  have e : mk S.testBit n = mk (fun p => S.testBit p && !g.testBit p) n + mk g.testBit n := su_sp (fun p _ => by
    have := sub p
    cases h1 : S.testBit p <;> cases h2 : g.testBit p <;> simp_all)
  rw [mk_of hS, mk_of (show g < 2 ^ n by omega)] at e
  omega
/-- the next smaller part of a set -/
theorem nx_sub : ∀ S g x : Nat, g &&& S = g → x &&& S = x → x < g → x ≤ (g - 1) &&& S := by
  intro S
  induction S using Nat.strongRecOn with
  | ind S ih =>
    intro g x hg hx hlt
    by_cases hS : S = 0
    · subst hS
      rw [Nat.and_zero] at hg
      omega
    have hg2 : (g / 2) &&& (S / 2) = g / 2 := by rw [← Nat.and_div_two, hg]
    have hx2 : (x / 2) &&& (S / 2) = x / 2 := by rw [← Nat.and_div_two, hx]
    have mg : g % 2 = 1 → S % 2 = 1 := fun h => (Nat.and_mod_two_eq_one.mp (by rw [hg]; exact h)).2
    have mx : x % 2 = 1 → S % 2 = 1 := fun h => (Nat.and_mod_two_eq_one.mp (by rw [hx]; exact h)).2
    have yd : ((g - 1) &&& S) / 2 = ((g - 1) / 2) &&& (S / 2) := Nat.and_div_two
    by_cases hb : g % 2 = 1
    · rw [show (g - 1) / 2 = g / 2 by omega, hg2] at yd
      omega
    · rw [show (g - 1) / 2 = g / 2 - 1 by omega] at yd
      have i := ih (S / 2) (by omega) (g / 2) (x / 2) hg2 hx2 (by omega)
      rw [← yd] at i
      by_cases hx1 : x % 2 = 1
      · have : ((g - 1) &&& S) % 2 = 1 := Nat.and_mod_two_eq_one.mpr ⟨by omega, mx hx1⟩
        omega
      · omega
theorem an_sub (a S : Nat) : (a &&& S) &&& S = a &&& S := by rw [Nat.and_assoc, Nat.and_self]
/-- Int32 and sets -/
theorem nAnd {a b : Nat} (ha : a < 2147483648) (hb : b < 2147483648) : nI a &&& nI b = nI (a &&& b) := by
  have l : a &&& b ≤ a := Nat.and_le_left
  apply Int32.toBitVec.inj
  rw [Int32.toBitVec_and]
  apply BitVec.eq_of_toNat_eq
  rw [BitVec.toNat_and]
  show (BitVec.ofNat 32 a).toNat &&& (BitVec.ofNat 32 b).toNat = (BitVec.ofNat 32 (a &&& b)).toNat
  rw [BitVec.toNat_ofNat, BitVec.toNat_ofNat, BitVec.toNat_ofNat, Nat.mod_eq_of_lt (by omega), Nat.mod_eq_of_lt (by omega), Nat.mod_eq_of_lt (by omega)]
theorem shk : ∀ k : Fin 32, ((nI k &&& 31).toBitVec.smod 32).toNat = k.val := by decide
theorem nShrV {k v : Nat} (hk : k < 32) (hv : v < 2147483648) : nI v >>> (nI k &&& 31) = nI (v / 2 ^ k) := by
  apply Int32.toBitVec.inj
  rw [Int32.toBitVec_shiftRight]
  show BitVec.sshiftRight (BitVec.ofNat 32 v) ((nI k &&& 31).toBitVec.smod 32).toNat = BitVec.ofNat 32 (v / 2 ^ k)
  rw [shk ⟨k, hk⟩]
  have t : (BitVec.ofNat 32 v).toNat = v := by rw [BitVec.toNat_ofNat, Nat.mod_eq_of_lt (by omega)]
  have m : (BitVec.ofNat 32 v).msb = false := by
    rw [BitVec.msb_eq_decide, t]
    exact decide_eq_false (by omega)
  rw [BitVec.sshiftRight_eq_of_msb_false m]
  apply BitVec.eq_of_toNat_eq
  have l : v / 2 ^ k ≤ v := Nat.div_le_self _ _
  rw [BitVec.toNat_ushiftRight, t, BitVec.toNat_ofNat, Nat.mod_eq_of_lt (by omega), Nat.shiftRight_eq_div_pow]
theorem shlk : ∀ k : Fin 31, nI 1 <<< (nI k &&& 31) = nI (2 ^ k.val) := by decide
theorem nShlV {k : Nat} (h : k < 31) : nI 1 <<< (nI k &&& 31) = nI (2 ^ k) := shlk ⟨k, h⟩

/-! BEST ORDER: what both count -/
set_option maxRecDepth 100000 in
theorem shl1 : ∀ k : Fin 9, nI 1 <<< (nI k &&& 31) = nI (2 ^ k.val) := by decide
set_option maxRecDepth 100000 in
theorem shr1 : ∀ k : Fin 8, ∀ p : Fin 256, (nI p >>> (nI k &&& 31)) &&& nI 1 = nI (if p.val.testBit k.val then 1 else 0) := by decide
set_option maxRecDepth 100000 in
theorem or1 : ∀ k : Fin 8, ∀ p : Fin 256, nI p ||| nI (2 ^ k.val) = nI (p.val ||| 2 ^ k.val) := by decide
theorem nShl {k : Nat} (h : k < 9) : nI 1 <<< (nI k &&& 31) = nI (2 ^ k) := shl1 ⟨k, h⟩
theorem nShr {k p : Nat} (h : k < 8) (hp : p < 256) : (nI p >>> (nI k &&& 31)) &&& nI 1 = nI (if p.testBit k then 1 else 0) := shr1 ⟨k, h⟩ ⟨p, hp⟩
theorem nOr {k p : Nat} (h : k < 8) (hp : p < 256) : nI p ||| nI (2 ^ k) = nI (p ||| 2 ^ k) := or1 ⟨k, h⟩ ⟨p, hp⟩
def am2 (p : Nat → Bool) (f : Nat → Int) : Nat → Option Nat
  | 0 => none
  | k + 1 => if p k then (match am2 p f k with | none => some k | some b => if f b < f k then some k else some b) else am2 p f k
def vO (f : Nat → Int) : Option Nat → Int
  | none => 0
  | some j => f j
theorem am2_p {p : Nat → Bool} {f : Nat → Int} : ∀ {m b : Nat}, am2 p f m = some b → b < m ∧ p b = true
  | 0, b, h => by cases h
  | m + 1, b, h => by
    rw [am2] at h
    by_cases hp : p m = true
    · rw [if_pos hp] at h
      cases hq : am2 p f m with
      | none => rw [hq] at h; cases h; exact ⟨by omega, hp⟩
      | some c =>
        rw [hq] at h
        have ih := am2_p hq
        simp only at h
        split at h
        · cases h; exact ⟨by omega, hp⟩
        · cases h; exact ⟨by omega, ih.2⟩
    · rw [if_neg hp] at h
      have ih := am2_p h
      exact ⟨by omega, ih.2⟩
theorem am2_n {p : Nat → Bool} {f : Nat → Int} : ∀ {m : Nat}, am2 p f m = none → ∀ k, k < m → p k = false
  | 0, _, k, hk => absurd hk (Nat.not_lt_zero _)
  | m + 1, h, k, hk => by
    rw [am2] at h
    by_cases hp : p m = true
    · rw [if_pos hp] at h
      cases hq : am2 p f m with
      | none => rw [hq] at h; cases h
      | some c =>
        rw [hq] at h
        simp only at h
        split at h <;> cases h
    · rw [if_neg hp] at h
      by_cases e : k = m
      · rw [e]; exact Bool.not_eq_true _ ▸ hp
      · exact am2_n h k (by omega)
theorem am2_x {p : Nat → Bool} {f : Nat → Int} : ∀ {m b : Nat}, am2 p f m = some b → (∀ k, k < m → p k = true → f k ≤ f b) ∧ ∀ k, k < b → p k = true → f k < f b
  | 0, b, h => by cases h
  | m + 1, b, h => by
    rw [am2] at h
    by_cases hp : p m = true
    · rw [if_pos hp] at h
      cases hq : am2 p f m with
      | none =>
        rw [hq] at h
        cases h
        have nn := am2_n hq
        refine ⟨fun k hk pk => ?_, fun k hk pk => ?_⟩
        · by_cases e : k = m
          · rw [e]; exact Int.le_refl _
          · rw [nn k (by omega)] at pk; cases pk
        · rw [nn k hk] at pk; cases pk
      | some c =>
        rw [hq] at h
        obtain ⟨i1, i2⟩ := am2_x hq
        simp only at h
        split at h
        · rename_i q
          cases h
          refine ⟨fun k hk pk => ?_, fun k hk pk => ?_⟩
          · by_cases e : k = m
            · rw [e]; exact Int.le_refl _
            · have := i1 k (by omega) pk; omega
          · have := i1 k hk pk; omega
        · rename_i q
          cases h
          refine ⟨fun k hk pk => ?_, i2⟩
          by_cases e : k = m
          · rw [e]; omega
          · exact i1 k (by omega) pk
    · rw [if_neg hp] at h
      obtain ⟨i1, i2⟩ := am2_x h
      refine ⟨fun k hk pk => ?_, i2⟩
      by_cases e : k = m
      · rw [e] at pk; exact absurd pk hp
      · exact i1 k (by omega) pk
theorem am2_cg {p : Nat → Bool} {f g : Nat → Int} : ∀ {m : Nat}, (∀ k, k < m → p k = true → f k = g k) → am2 p f m = am2 p g m
  | 0, _ => rfl
  | m + 1, h => by
    have ih := am2_cg (m := m) (fun k hk => h k (by omega))
    rw [am2, am2, ih]
    by_cases hp : p m = true
    · rw [if_pos hp, if_pos hp]
      cases hq : am2 p g m with
      | none => rfl
      | some c =>
        have := am2_p hq
        simp only
        rw [h m (by omega) hp, h c (by omega) this.2]
    · rw [if_neg hp, if_neg hp]
def oV' (pr : Nat → Nat → Int) (n : Nat) : Nat → Nat → Nat → Int
  | 0, _, _ => 0
  | d + 1, set, last => vO (fun j => pr last j + oV' pr n d (set ||| 2 ^ j) j) (am2 (fun j => !set.testBit j) (fun j => pr last j + oV' pr n d (set ||| 2 ^ j) j) n)
theorem or_gt {s j : Nat} (h : s.testBit j = false) : s + 1 ≤ s ||| 2 ^ j := by
  have h1 : s ≤ s ||| 2 ^ j := Nat.left_le_or
  have h2 : s ≠ s ||| 2 ^ j := fun e => by
    have := congrArg (fun x => x.testBit j) e
    simp only [Nat.testBit_or, Nat.testBit_two_pow_self, Bool.or_true, h] at this
    cases this
  omega
theorem or_lt {s j n : Nat} (h : s < 2 ^ n) (hj : j < n) : s ||| 2 ^ j < 2 ^ n := Nat.or_lt_two_pow h (Nat.pow_lt_pow_right (by decide) hj)
theorem oV'_irr {pr : Nat → Nat → Int} {n : Nat} : ∀ d set last, set < 2 ^ n → 2 ^ n ≤ d + set → oV' pr n d set last = oV' pr n (d + 1) set last
  | 0, set, last, h1, h2 => by omega
  | d + 1, set, last, h1, h2 => by
    have key : ∀ j, j < n → (!set.testBit j) = true → (fun j => pr last j + oV' pr n d (set ||| 2 ^ j) j) j = (fun j => pr last j + oV' pr n (d + 1) (set ||| 2 ^ j) j) j := fun j hj hb => by
      have hb' : set.testBit j = false := by simpa using hb
      have := or_gt hb'
      show pr last j + oV' pr n d (set ||| 2 ^ j) j = pr last j + oV' pr n (d + 1) (set ||| 2 ^ j) j
      rw [oV'_irr d _ _ (or_lt h1 hj) (by omega)]
    rw [oV', oV', am2_cg key]
    cases hq : am2 (fun j => !set.testBit j) (fun j => pr last j + oV' pr n (d + 1) (set ||| 2 ^ j) j) n with
    | none => rfl
    | some b =>
      obtain ⟨b1, b2⟩ := am2_p hq
      exact key b b1 b2
def oV (pr : Nat → Nat → Int) (n set last : Nat) : Int := oV' pr n (2 ^ n) set last
def oF (pr : Nat → Nat → Int) (n set last j : Nat) : Int := pr last j + oV pr n (set ||| 2 ^ j) j
def oN (pr : Nat → Nat → Int) (n set last : Nat) : Option Nat := am2 (fun j => !set.testBit j) (oF pr n set last) n
theorem oV_eq {pr : Nat → Nat → Int} {n set last : Nat} (h0 : 0 < set) (h1 : set < 2 ^ n) : oV pr n set last = vO (oF pr n set last) (oN pr n set last) := by
  obtain ⟨d, ed⟩ : ∃ d, 2 ^ n = d + 1 := ⟨2 ^ n - 1, by omega⟩
  have key : ∀ j, j < n → (!set.testBit j) = true → (fun j => pr last j + oV' pr n d (set ||| 2 ^ j) j) j = oF pr n set last j := fun j hj hb => by
    have hb' : set.testBit j = false := by simpa using hb
    have := or_gt hb'
    show pr last j + oV' pr n d (set ||| 2 ^ j) j = pr last j + oV' pr n (2 ^ n) (set ||| 2 ^ j) j
    rw [oV'_irr d _ _ (or_lt h1 hj) (by omega), ed]
  unfold oV oN
  rw [ed, oV', am2_cg key]
  cases hq : am2 (fun j => !set.testBit j) (oF pr n set last) n with
  | none => rfl
  | some b =>
    obtain ⟨b1, b2⟩ := am2_p hq
    exact key b b1 b2
theorem oV'_b {pr : Nat → Nat → Int} {n : Nat} (hp : ∀ i j, i < n → j < n → -400 ≤ pr i j ∧ pr i j ≤ 1200) : ∀ d set last, set < 2 ^ n → last < n → -(400 * ((2 ^ n - set : Nat) : Int)) ≤ oV' pr n d set last ∧ oV' pr n d set last ≤ 1200 * ((2 ^ n - set : Nat) : Int)
  | 0, set, last, h1, h2 => by
    rw [oV']; omega
  | d + 1, set, last, h1, h2 => by
    rw [oV']
    cases hq : am2 (fun j => !set.testBit j) (fun j => pr last j + oV' pr n d (set ||| 2 ^ j) j) n with
    | none => show -(400 * ((2 ^ n - set : Nat) : Int)) ≤ 0 ∧ 0 ≤ 1200 * ((2 ^ n - set : Nat) : Int); omega
    | some b =>
      obtain ⟨b1, b2⟩ := am2_p hq
      have b2' : set.testBit b = false := by simpa using b2
      have g := or_gt b2'
      have l := or_lt h1 b1
      have ih := oV'_b hp d (set ||| 2 ^ b) b l b1
      have := hp last b h2 b1
      show -(400 * ((2 ^ n - set : Nat) : Int)) ≤ pr last b + oV' pr n d (set ||| 2 ^ b) b ∧ pr last b + oV' pr n d (set ||| 2 ^ b) b ≤ 1200 * ((2 ^ n - set : Nat) : Int)
      omega
theorem p8 {n : Nat} (h : n ≤ 8) : 2 ^ n ≤ 256 := Nat.pow_le_pow_right (by decide) h
theorem oV_b {pr : Nat → Nat → Int} {n : Nat} (hn : n ≤ 8) (hp : ∀ i j, i < n → j < n → -400 ≤ pr i j ∧ pr i j ≤ 1200) {set last : Nat} (h1 : set < 2 ^ n) (h2 : last < n) : -102400 ≤ oV pr n set last ∧ oV pr n set last ≤ 307200 := by
  have := oV'_b hp (2 ^ n) set last h1 h2
  have := p8 hn
  unfold oV
  omega
theorem oF_b {pr : Nat → Nat → Int} {n : Nat} (hn : n ≤ 8) (hp : ∀ i j, i < n → j < n → -400 ≤ pr i j ∧ pr i j ≤ 1200) {set last j : Nat} (h1 : set < 2 ^ n) (h2 : last < n) (h3 : j < n) : -110000 ≤ oF pr n set last j ∧ oF pr n set last j ≤ 310000 := by
  have := oV_b hn hp (or_lt h1 h3) h3
  have := hp last j h2 h3
  unfold oF
  omega
/-- how many of the first n bits are set -/
def cB (s : Nat) : Nat → Nat
  | 0 => 0
  | n + 1 => cB s n + if s.testBit n then 1 else 0
theorem cB_all {s : Nat} : ∀ {n : Nat}, (∀ k, k < n → s.testBit k = true) → cB s n = n
  | 0, _ => rfl
  | n + 1, h => by rw [cB, cB_all (fun k hk => h k (by omega)), if_pos (h n (by omega))]
theorem cB_or {s j : Nat} (h : s.testBit j = false) : ∀ n, cB (s ||| 2 ^ j) n = cB s n + if j < n then 1 else 0
  | 0 => rfl
  | n + 1 => by
    rw [cB, cB, cB_or h n, Nat.testBit_or, Nat.testBit_two_pow]
    by_cases e : j = n
    · subst e
      rw [h]
      simp
    · have e1 : decide (j = n) = false := decide_eq_false e
      rw [e1, Bool.or_false]
      by_cases q : j < n
      · rw [if_pos q, if_pos (show j < n + 1 by omega)]; omega
      · rw [if_neg q, if_neg (show ¬ j < n + 1 by omega)]; rfl
/-- the best order: which are placed, and the last one -/
def oFst (pr : Nat → Nat → Int) (n : Nat) : Nat := amx (fun i => oV pr n (2 ^ i) i) n
def oSt (pr : Nat → Nat → Int) (n : Nat) : Nat → Nat × Nat
  | 0 => (2 ^ oFst pr n, oFst pr n)
  | k + 1 => ((oSt pr n k).1 ||| 2 ^ (oN pr n (oSt pr n k).1 (oSt pr n k).2).getD 0, (oN pr n (oSt pr n k).1 (oSt pr n k).2).getD 0)
theorem oSt_ok {pr : Nat → Nat → Int} {n : Nat} (hn : 0 < n) : ∀ k, k < n → (oSt pr n k).1 < 2 ^ n ∧ 0 < (oSt pr n k).1 ∧ (oSt pr n k).2 < n ∧ (oSt pr n k).1.testBit (oSt pr n k).2 = true ∧ cB (oSt pr n k).1 n = k + 1 ∧ (k + 1 < n → ∃ b, oN pr n (oSt pr n k).1 (oSt pr n k).2 = some b ∧ b < n ∧ (oSt pr n k).1.testBit b = false)
  | 0, h => by
    have l : oFst pr n < n := amx_lt _ _ hn
    have c : cB (2 ^ oFst pr n) n = 1 := by
      have := cB_or (s := 0) (j := oFst pr n) (Nat.zero_testBit _) n
      rw [Nat.zero_or, if_pos l] at this
      rw [this]
      have z : ∀ m, cB 0 m = 0 := fun m => by
        induction m with
        | zero => rfl
        | succ m ih => rw [cB, ih, Nat.zero_testBit]; rfl
      rw [z]
    have a : (oSt pr n 0).1 = 2 ^ oFst pr n := rfl
    have b : (oSt pr n 0).2 = oFst pr n := rfl
    refine ⟨Nat.pow_lt_pow_right (by decide) l, Nat.pow_pos (by decide), l, Nat.testBit_two_pow_self, c, fun h1 => ?_⟩
    cases hq : oN pr n (oSt pr n 0).1 (oSt pr n 0).2 with
    | none =>
      have := cB_all (s := (oSt pr n 0).1) (n := n) (fun k hk => by simpa only [Bool.not_eq_false'] using am2_n hq k hk)
      rw [a, c] at this
      omega
    | some b =>
      obtain ⟨b1, b2⟩ := am2_p hq
      exact ⟨b, rfl, b1, by simpa using b2⟩
  | k + 1, h => by
    obtain ⟨i1, i2, i3, i4, i5, i6⟩ := oSt_ok (pr := pr) hn k (by omega)
    obtain ⟨b, hb, b1, b2⟩ := i6 h
    have e1 : (oSt pr n (k + 1)).1 = (oSt pr n k).1 ||| 2 ^ b := by rw [oSt, hb]; rfl
    have e2 : (oSt pr n (k + 1)).2 = b := by rw [oSt, hb]; rfl
    have c : cB ((oSt pr n k).1 ||| 2 ^ b) n = k + 1 + 1 := by rw [cB_or b2, i5, if_pos b1]
    rw [e1, e2]
    refine ⟨or_lt i1 b1, by have := or_gt b2; omega, b1, by rw [Nat.testBit_or, Nat.testBit_two_pow_self, Bool.or_true], c, fun h1 => ?_⟩
    cases hq : oN pr n ((oSt pr n k).1 ||| 2 ^ b) b with
    | none =>
      have := cB_all (s := (oSt pr n k).1 ||| 2 ^ b) (n := n) (fun k hk => by simpa only [Bool.not_eq_false'] using am2_n hq k hk)
      rw [c] at this
      omega
    | some b' =>
      obtain ⟨b1', b2'⟩ := am2_p hq
      exact ⟨b', rfl, b1', by simpa using b2'⟩

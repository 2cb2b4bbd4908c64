/-! BEST SHIFTS: what both count -/
/-- the first of the first m places with the greatest number -/
def amx (f : Nat → Int) : Nat → Nat
  | 0 => 0
  | k + 1 => if f (amx f k) < f k then k else amx f k
theorem amx_lt (f : Nat → Int) : ∀ m, 0 < m → amx f m < m
  | 0, h => absurd h (by decide)
  | 1, _ => by unfold amx; split <;> (try unfold amx) <;> decide
  | m + 2, _ => by
    have := amx_lt f (m + 1) (by omega)
    rw [amx]
    split <;> omega
theorem amx_max (f : Nat → Int) : ∀ m k, k < m → f k ≤ f (amx f m)
  | 0, k, h => absurd h (Nat.not_lt_zero _)
  | m + 1, k, h => by
    rw [amx]
    by_cases hk : k = m
    · subst hk
      split <;> omega
    · have := amx_max f m k (by omega)
      split <;> omega
theorem amx_fst (f : Nat → Int) : ∀ m k, k < amx f m → f k < f (amx f m)
  | 0, k, h => absurd h (Nat.not_lt_zero _)
  | m + 1, k, h => by
    rw [amx] at h ⊢
    split at h
    · rename_i q
      rw [if_pos q]
      have := amx_max f m k h
      omega
    · rename_i q
      rw [if_neg q]
      exact amx_fst f m k h
theorem amx_S (f : Nat → Int) (k : Nat) : amx f (k + 1) = if f (amx f k) < f k then k else amx f k := rfl
theorem amx_1 (f : Nat → Int) : amx f 1 = 0 := by rw [amx]; split <;> rfl
theorem amx_cg {f g : Nat → Int} : ∀ {m : Nat}, (∀ k, k < m → f k = g k) → amx f m = amx g m
  | 0, _ => rfl
  | 1, _ => by rw [amx_1, amx_1]
  | m + 2, h => by
    have ih := amx_cg (m := m + 1) (fun k hk => h k (by omega))
    have l := amx_lt g (m + 1) (by omega)
    rw [amx_S f (m + 1), amx_S g (m + 1), ih, h (m + 1) (by omega), h (amx g (m + 1)) (by omega)]
/-- a way: twice the shift, and 1 if turned -/
def tw (v : Nat) : Bool := decide (v % 2 = 1)
def sval (ls : Nat → List Nat) (k v w : Nat) : Int := sV (ls k) (tw v) (v / 2) (ls (k + 1)) (tw w) (w / 2)
/-- most that the last j seams can have, the first of their parts in a way -/
def sW (ls : Nat → List Nat) (n m : Nat) : Nat → Nat → Int
  | 0, _ => 0
  | j + 1, v => sval ls (n - 2 - j) v (amx (fun w => sval ls (n - 2 - j) v w + sW ls n m j w) m) + sW ls n m j (amx (fun w => sval ls (n - 2 - j) v w + sW ls n m j w) m)
def sF (ls : Nat → List Nat) (n m j v w : Nat) : Int := sval ls (n - 2 - j) v w + sW ls n m j w
theorem sW_S (ls : Nat → List Nat) (n m j v : Nat) : sW ls n m (j + 1) v = sF ls n m j v (amx (sF ls n m j v) m) := rfl
theorem sW_b {ls : Nat → List Nat} {n m : Nat} (ok : ∀ k, k < n → okS (ls k)) (hm : 0 < m) : ∀ j v, j < n → -(400 * (j : Int)) ≤ sW ls n m j v ∧ sW ls n m j v ≤ 1200 * (j : Int)
  | 0, v, _ => ⟨Int.le_refl _, Int.le_refl _⟩
  | j + 1, v, hj => by
    rw [sW_S]
    unfold sF
    have h1 := sW_b ok hm j (amx (sF ls n m j v) m) (by omega)
    have h2 := sV_b (l2 := ls (n - 2 - j + 1)) (ok (n - 2 - j) (by omega)) (tw v) (tw (amx (sF ls n m j v) m)) (v / 2) (amx (sF ls n m j v) m / 2)
    unfold sF at h1 h2
    unfold sval
    unfold sval at h1 h2
    omega
theorem sF_b {ls : Nat → List Nat} {n m : Nat} (ok : ∀ k, k < n → okS (ls k)) (hm : 0 < m) (hn : n ≤ 12) {j : Nat} (hj : j + 1 < n) (v w : Nat) : -5000 ≤ sF ls n m j v w ∧ sF ls n m j v w ≤ 15000 := by
  have h1 := sW_b ok hm j w (by omega)
  have h2 := sV_b (l2 := ls (n - 2 - j + 1)) (ok (n - 2 - j) (by omega)) (tw v) (tw w) (v / 2) (w / 2)
  unfold sF sval
  omega
/-- the best ways -/
def sP (ls : Nat → List Nat) (n m : Nat) : Nat → Nat
  | 0 => amx (sW ls n m (n - 1)) m
  | k + 1 => amx (sF ls n m (n - 2 - k) (sP ls n m k)) m
theorem sP_lt (ls : Nat → List Nat) (n : Nat) {m : Nat} (hm : 0 < m) : ∀ k, sP ls n m k < m
  | 0 => amx_lt _ _ hm
  | k + 1 => amx_lt _ _ hm
theorem SA_inv {l1 l2 : List Nat} {t1 t2 : Bool} {a b c d : Nat} (h1 : b - a = d - c) (h2 : a - b = c - d) : sV l1 t1 a l2 t2 b = sV l1 t1 c l2 t2 d := by
  unfold sV SA SM ovN
  have e1 : ovF l1 t1 a b = ovF l1 t1 c d := by funext k; unfold ovF; rw [h1]
  have e2 : ovF l2 t2 b a = ovF l2 t2 d c := by funext k; unfold ovF; rw [h2]
  rw [e1, e2, h1, h2]
/-- signed numbers for simp -/
theorem zLT {a b : Int} (h1 : -2147483648 ≤ a) (h2 : a < 2147483648) (h3 : -2147483648 ≤ b) (h4 : b < 2147483648) : Int32.ofInt a < Int32.ofInt b ↔ a < b := by
  rw [Int32.lt_iff_toInt_lt, Int32.toInt_ofInt_of_le h1 (by omega), Int32.toInt_ofInt_of_le h3 (by omega)]
theorem zLE {a b : Int} (h1 : -2147483648 ≤ a) (h2 : a < 2147483648) (h3 : -2147483648 ≤ b) (h4 : b < 2147483648) : Int32.ofInt a ≤ Int32.ofInt b ↔ a ≤ b := by
  rw [Int32.le_iff_toInt_le, Int32.toInt_ofInt_of_le h1 (by omega), Int32.toInt_ofInt_of_le h3 (by omega)]
theorem zEQ {a b : Int} (h1 : -2147483648 ≤ a) (h2 : a < 2147483648) (h3 : -2147483648 ≤ b) (h4 : b < 2147483648) : Int32.ofInt a = Int32.ofInt b ↔ a = b := by
  rw [← Int32.toInt_inj, Int32.toInt_ofInt_of_le h1 (by omega), Int32.toInt_ofInt_of_le h3 (by omega)]
theorem zADD (a b : Int) : Int32.ofInt a + Int32.ofInt b = Int32.ofInt (a + b) := (Int32.ofInt_add a b).symm
theorem nI_p (q : Nat) : nI q + Int32.ofInt (-1) = Int32.ofInt ((q : Int) - 1) := by rw [← oi_n, ← Int32.ofInt_add]; rfl
theorem zI_q (q : Nat) : Int32.ofInt (((q + 1 : Nat) : Int) - 1) = nI q := by rw [← oi_n]; exact congrArg Int32.ofInt (by omega)
theorem zI_n : (Int32.ofInt (((0 : Nat) : Int) - 1) < nI 0) = True := by decide
theorem nI_ne1 {q : Nat} (h : q < 2147483648) : (nI q = Int32.ofInt (-1)) = False := by
  rw [eq_iff_iff, iff_false, ← Int32.toInt_inj, nI_i h, Int32.toInt_ofInt_of_le (by decide) (by decide)]; omega

def byt (x : Int32) (k : Int) : Int32 := (x >>> (Int32.ofInt k &&& 31)).toInt8.toInt32
theorem byt_i8 (z : Int32) : z.toInt8.toInt32.toInt8.toInt32 = z.toInt8.toInt32 := pk_vb z
/-- four bytes of an int, the highest first -/
def lay4 (f : Nat → Int32) (n : Nat) (x : Int32) : Nat → Int32 := va_up (va_up (va_up (va_up f n (byt x 24)) (n + 1) (byt x 16)) (n + 2) (byt x 8)) (n + 3) (byt x 0)
theorem k24_16 : Int32.ofInt 24 + Int32.ofInt (-8) = Int32.ofInt 16 := by decide
theorem k16_8 : Int32.ofInt 16 + Int32.ofInt (-8) = Int32.ofInt 8 := by decide
theorem k8_0 : Int32.ofInt 8 + Int32.ofInt (-8) = Int32.ofInt 0 := by decide
theorem k3_2 : Int32.ofInt 3 + Int32.ofInt (-1) = Int32.ofInt 2 := by decide
theorem k2_1 : Int32.ofInt 2 + Int32.ofInt (-1) = Int32.ofInt 1 := by decide
theorem k1_0 : Int32.ofInt 1 + Int32.ofInt (-1) = Int32.ofInt 0 := by decide
theorem k83 : Int32.ofInt 8 * Int32.ofInt 3 = Int32.ofInt 24 := by decide
theorem k82 : Int32.ofInt 8 * Int32.ofInt 2 = Int32.ofInt 16 := by decide
theorem k81 : Int32.ofInt 8 * Int32.ofInt 1 = Int32.ofInt 8 := by decide
theorem k80 : Int32.ofInt 8 * Int32.ofInt 0 = Int32.ofInt 0 := by decide
theorem nI_st (n k l : Nat) (h : k + 1 = l) : nI (n + k) + Int32.ofInt 1 = nI (n + l) := by
  subst h
  rw [← Nat.add_assoc]
  exact nI_1 (n + k)
section FEED
variable {h : pm_H} {Q : Option Value → pm_H → Prop} {x1 : Int32}
theorem c63 (S : SK h) {n : Nat} (hn : n + 4 ≤ 800) (e : zI h 2 1 = nI n) (k0 : ∀ g, Same [2, 3] h g → zI g 2 1 = nI (n + 4) → zI g 3 = lay4 (zI h 3) n x1 → Q none g) : WP 63 0 [some (.ref 2), some (.int x1), none] [] h Q := by
  have hN : zN h 3 = 800 := S.N 3
  have e1 : zI h 2 1 + Int32.ofInt 1 = nI (n + 1) := by rw [e]; exact nI_1 n
  have e2 : nI (n + 1) + Int32.ofInt 1 = nI (n + 2) := nI_st n 1 2 rfl
  have e3 : nI (n + 2) + Int32.ofInt 1 = nI (n + 3) := nI_st n 2 3 rfl
  have e4 : nI (n + 3) + Int32.ofInt 1 = nI (n + 4) := nI_st n 3 4 rfl
  have f : ∀ j, j < 800 → ¬ Int32.ofInt (zN h 3) ≤ nI j := fun j hj => by rw [hN]; exact nI_ge (a := j) (b := 800) hj (by decide)
  have v : ∀ j, j < 800 → vp_in (nI j) 800 := fun j hj => vp_in_nI hj (by decide)
  have c : ∀ j, j < 800 → (nI j).toNatClampNeg = j := fun j hj => nI_clamp (by omega)
  refine V63 S (fun a => ?_) (fun a => ?_) (fun a b => ?_) (fun a b => ?_) (fun a b d => ?_) (fun a b d => ?_) (fun a b d i => ?_) (fun a b d i => ?_) (fun a b d i => ?_)
  · rw [e] at a; exact absurd a (f n (by omega))
  · rw [e]; exact v n (by omega)
  · rw [e1] at b; exact absurd b (f _ (by omega))
  · rw [e1]; exact v _ (by omega)
  · rw [e1, e2] at d; exact absurd d (f _ (by omega))
  · rw [e1, e2]; exact v _ (by omega)
  · rw [e1, e2, e3] at i; exact absurd i (f _ (by omega))
  · rw [e1, e2, e3]; exact v _ (by omega)
  · rw [e1, e2, e3, e4, e, c _ (by omega), c _ (by omega), c _ (by omega), c _ (by omega), byt_i8, byt_i8, byt_i8, byt_i8, k24_16, k16_8, k8_0]
    refine k0 _ (by repeat first | exact Same.rf | refine Same.I ?_ _ _ _ (by decide)) ?_ ?_
    · simp [zI_yI, va_upA]
    · simp [zI_yI, lay4, byt]
theorem c144 (S : SK h) {n : Nat} (hn : n + 4 ≤ 800) (e : zI h 35 3 = nI n) (k0 : ∀ g, Same [35, 36] h g → zI g 35 3 = nI (n + 4) → (∀ k, k ≠ 3 → zI g 35 k = zI h 35 k) → zI g 36 = lay4 (zI h 36) n x1 → Q none g) : WP 144 0 [some (.ref 35), some (.int x1), none] [] h Q := by
  have e1 : zI h 35 3 + Int32.ofInt 1 = nI (n + 1) := by rw [e]; exact nI_1 n
  have e2 : nI (n + 1) + Int32.ofInt 1 = nI (n + 2) := nI_st n 1 2 rfl
  have e3 : nI (n + 2) + Int32.ofInt 1 = nI (n + 3) := nI_st n 2 3 rfl
  have e4 : nI (n + 3) + Int32.ofInt 1 = nI (n + 4) := nI_st n 3 4 rfl
  have v : ∀ j, j < 800 → vp_in (nI j) 800 := fun j hj => vp_in_nI hj (by decide)
  have c : ∀ j, j < 800 → (nI j).toNatClampNeg = j := fun j hj => nI_clamp (by omega)
  refine V144 S ?_ ?_ ?_ ?_ ?_
  · rw [e]; exact v n (by omega)
  · rw [e1]; exact v _ (by omega)
  · rw [e1, e2]; exact v _ (by omega)
  · rw [e1, e2, e3]; exact v _ (by omega)
  · rw [e1, e2, e3, e4, e, c _ (by omega), c _ (by omega), c _ (by omega), c _ (by omega), byt_i8, byt_i8, byt_i8, byt_i8, k3_2, k2_1, k1_0, k83, k82, k81, k80]
    refine k0 _ (by repeat first | exact Same.rf | refine Same.I ?_ _ _ _ (by decide)) ?_ ?_ ?_
    · simp [zI_yI, va_upA]
    · intro k hk
      simp [zI_yI, va_upA, hk]
    · simp [zI_yI, lay4, byt]
end FEED

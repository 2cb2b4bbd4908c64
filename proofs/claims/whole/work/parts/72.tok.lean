/-! TOKENS -/
def isL (c : Nat) : Bool := decide (97 ≤ c) && decide (c ≤ 122)
def isD (c : Nat) : Bool := decide (48 ≤ c) && decide (c ≤ 57)
def isS (c : Nat) : Bool := decide (c = 32) || decide (c = 10)
def isG (c : Nat) : Bool := decide (c = 40) || decide (c = 41) || decide (c = 59) || decide (c = 44) || decide (c = 43) || decide (c = 58)
/-- from a place on over all that is of a sort -/
def scf (p : Nat → Bool) (ch : Nat → Nat) : Nat → Nat → Nat
  | 0, i => i
  | m + 1, i => if p (ch i) then scf p ch m (i + 1) else i
theorem scf_b (p : Nat → Bool) (ch : Nat → Nat) : ∀ m i, i ≤ scf p ch m i ∧ scf p ch m i ≤ i + m
  | 0, i => ⟨Nat.le_refl _, Nat.le_refl _⟩
  | m + 1, i => by
    rw [scf]
    split
    · have := scf_b p ch m (i + 1); omega
    · omega
theorem scf_in (p : Nat → Bool) (ch : Nat → Nat) : ∀ m i j, i ≤ j → j < scf p ch m i → p (ch j) = true
  | 0, i, j, h1, h2 => by rw [scf] at h2; omega
  | m + 1, i, j, h1, h2 => by
    rw [scf] at h2
    split at h2
    · rename_i hq
      by_cases e : j = i
      · rw [e]; exact hq
      · exact scf_in p ch m (i + 1) j (by omega) h2
    · omega
theorem scf_out (p : Nat → Bool) (ch : Nat → Nat) : ∀ m i, scf p ch m i < i + m → p (ch (scf p ch m i)) = false
  | 0, i, h => by rw [scf] at h; omega
  | m + 1, i, h => by
    rw [scf] at h ⊢
    split
    · rename_i hq
      rw [if_pos hq] at h
      exact scf_out p ch m (i + 1) (by omega)
    · rename_i hq
      cases hz : p (ch i)
      · rfl
      · exact absurd hz hq
def sc (p : Nat → Bool) (ch : Nat → Nat) (n i : Nat) : Nat := scf p ch (n - i) i
theorem sc_st {p : Nat → Bool} {ch : Nat → Nat} {n i : Nat} (h : i < n) : sc p ch n i = if p (ch i) then sc p ch n (i + 1) else i := by
  unfold sc
  rw [show n - i = (n - (i + 1)) + 1 by omega, scf]
theorem sc_n {p : Nat → Bool} {ch : Nat → Nat} {n : Nat} : sc p ch n n = n := by unfold sc; rw [Nat.sub_self]; rfl
theorem sc_b {p : Nat → Bool} {ch : Nat → Nat} {n i : Nat} (h : i ≤ n) : i ≤ sc p ch n i ∧ sc p ch n i ≤ n := by
  have := scf_b p ch (n - i) i
  unfold sc
  omega
/-- does a word spell -/
def spl (ch : Nat → Nat) (s e : Nat) (w : List Nat) : Bool := decide (e - s = w.length) && (List.range w.length).all (fun k => decide (ch (s + k) = w.getD k 0))
def wST : List Nat := [115, 116, 114, 105, 112]
def wCL : List Nat := [99, 108, 111, 116, 104]
def wTU : List Nat := [116, 117, 114, 110]
def wv (ch : Nat → Nat) (s e : Nat) : Nat := if e - s = 1 then ch s - 97 else if spl ch s e wST then 26 else if spl ch s e wCL then 27 else if spl ch s e wTU then 28 else 29
def nv (ch : Nat → Nat) (s : Nat) : Nat → Nat
  | 0 => 0
  | k + 1 => nv ch s k * 10 + (ch (s + k) - 48)
section TOK
variable (ch : Nat → Nat) (n : Nat)
def tpl (i : Nat) : Nat := sc isS ch n i
def tkd (i : Nat) : Nat := if n ≤ tpl ch n i then 0 else if isL (ch (tpl ch n i)) then 1 else if isD (ch (tpl ch n i)) then (if sc isD ch n (tpl ch n i) - tpl ch n i ≤ 4 then 2 else 4) else if isG (ch (tpl ch n i)) then 3 else 4
def tnx (i : Nat) : Nat := if n ≤ tpl ch n i then tpl ch n i else if isL (ch (tpl ch n i)) then sc isL ch n (tpl ch n i) else if isD (ch (tpl ch n i)) then sc isD ch n (tpl ch n i) else tpl ch n i + 1
def tvl (i : Nat) : Nat := if isL (ch (tpl ch n i)) then wv ch (tpl ch n i) (tnx ch n i) else if isD (ch (tpl ch n i)) then nv ch (tpl ch n i) (tnx ch n i - tpl ch n i) else ch (tpl ch n i)
end TOK
/-- a byte row tells these -/
def CH (h : pm_H) (row : Nat) (ch : Nat → Nat) (n : Nat) : Prop := ∀ j, j < n → (ch j < 128 ∧ zI h row j = nI (ch j)) ∨ (128 ≤ ch j ∧ ch j < 256 ∧ zI h row j < 0 ∧ zI h row j &&& nI 255 = nI (ch j))
theorem tsw70 {x : Int32} (h0 : ¬ x = Int32.ofInt 40) (h1 : ¬ x = Int32.ofInt 41) (h2 : ¬ x = Int32.ofInt 43) (h3 : ¬ x = Int32.ofInt 44) (h4 : ¬ x = Int32.ofInt 58) (h5 : ¬ x = Int32.ofInt 59) : pm_tsw 128 40 59 #[120, 120, 128, 120, 120, 128, 128, 128, 128, 128, 128, 128, 128, 128, 128, 128, 128, 128, 120, 120] x = 128 := by
  have q0 := sw_ne h0
  have q1 := sw_ne h1
  have q2 := sw_ne h2
  have q3 := sw_ne h3
  have q4 := sw_ne h4
  have q5 := sw_ne h5
  unfold pm_tsw
  by_cases hr : x.toInt < 40 ∨ 59 < x.toInt
  · rw [if_pos hr]; rfl
  · rw [if_neg hr]
    have hv : x.toInt = 42 ∨ x.toInt = 45 ∨ x.toInt = 46 ∨ x.toInt = 47 ∨ x.toInt = 48 ∨ x.toInt = 49 ∨ x.toInt = 50 ∨ x.toInt = 51 ∨ x.toInt = 52 ∨ x.toInt = 53 ∨ x.toInt = 54 ∨ x.toInt = 55 ∨ x.toInt = 56 ∨ x.toInt = 57 := by omega
    rcases hv with e | e | e | e | e | e | e | e | e | e | e | e | e | e <;> (rw [e]; rfl)
theorem V66 {h : pm_H} {Q : Option Value → pm_H → Prop}  (S : SK h) (k2 : ((zI h 2 2) ≤ (zI h 2 3)) → WP 66 52 [some (.ref 2)] [] h Q) (g3 : (¬ (zI h 2 2) ≤ (zI h 2 3)) → vp_in (zI h 2 3) 800) (k5 : (¬ (zI h 2 2) ≤ (zI h 2 3)) → ((zI h 3 ((zI h 2 3)).toNatClampNeg) = (Int32.ofInt 32)) → WP 66 0 [some (.ref 2)] [] (yI h 2 3 ((zI h 2 3) + (Int32.ofInt 1))) Q) (g6 : (¬ (zI h 2 2) ≤ (zI h 2 3)) → (¬ (zI h 3 ((zI h 2 3)).toNatClampNeg) = (Int32.ofInt 32)) → vp_in (zI h 2 3) 800) (k8 : (¬ (zI h 2 2) ≤ (zI h 2 3)) → (¬ (zI h 3 ((zI h 2 3)).toNatClampNeg) = (Int32.ofInt 32)) → (¬ (zI h 3 ((zI h 2 3)).toNatClampNeg) = (Int32.ofInt 10)) → WP 66 52 [some (.ref 2)] [] h Q) (k9 : (¬ (zI h 2 2) ≤ (zI h 2 3)) → (¬ (zI h 3 ((zI h 2 3)).toNatClampNeg) = (Int32.ofInt 32)) → ((zI h 3 ((zI h 2 3)).toNatClampNeg) = (Int32.ofInt 10)) → WP 66 0 [some (.ref 2)] [] (yI h 2 3 ((zI h 2 3) + (Int32.ofInt 1))) Q) : WP 66 0 [some (.ref 2)] [] h Q :=
  B66_0 (S.T 2) (fun c1 => k2 c1) (fun c1 => B66_11 (S.T 2) (S.R 2 0) ⟨(S.T 3), (S.bd 3 (g3 c1))⟩ (fun c4 => B66_39 (S.T 2) (k5 c1 c4)) (fun c4 => B66_25 (S.T 2) (S.R 2 0) ⟨(S.T 3), (S.bd 3 (g6 c1 c4))⟩ (fun c7 => k8 c1 c4 c7) (fun c7 => B66_39 (S.T 2) (k9 c1 c4 c7))))
theorem V66b {h : pm_H} {Q : Option Value → pm_H → Prop}  (S : SK h) (g2 : ((zI h 2 3) < (zI h 2 2)) → vp_in (zI h 2 3) 800) (g5 : ((zI h 2 3) < (zI h 2 2)) → ((zI h 3 ((zI h 2 3)).toNatClampNeg) < (Int32.ofInt 97)) → vp_in (zI h 2 3) 800) (k8 : ((zI h 2 3) < (zI h 2 2)) → ((zI h 3 ((zI h 2 3)).toNatClampNeg) < (Int32.ofInt 97)) → ((zI h 3 ((zI h 2 3)).toNatClampNeg) < (Int32.ofInt 48)) → WP 70 0 [some (.ref 2)] [] (yI h 2 5 (zI h 2 3)) (fun v1 h1 => WP 66 132 [some (.ref 2)] (v1.toList ++ []) h1 Q)) (k11 : ((zI h 2 3) < (zI h 2 2)) → ((zI h 3 ((zI h 2 3)).toNatClampNeg) < (Int32.ofInt 97)) → (¬ (zI h 3 ((zI h 2 3)).toNatClampNeg) < (Int32.ofInt 48)) → ((Int32.ofInt 57) < (zI h 3 ((zI h 2 3)).toNatClampNeg)) → WP 70 0 [some (.ref 2)] [] (yI h 2 5 (zI h 2 3)) (fun v1 h1 => WP 66 132 [some (.ref 2)] (v1.toList ++ []) h1 Q)) (k13 : ((zI h 2 3) < (zI h 2 2)) → ((zI h 3 ((zI h 2 3)).toNatClampNeg) < (Int32.ofInt 97)) → (¬ (zI h 3 ((zI h 2 3)).toNatClampNeg) < (Int32.ofInt 48)) → (¬ (Int32.ofInt 57) < (zI h 3 ((zI h 2 3)).toNatClampNeg)) → WP 69 0 [some (.ref 2)] [] (yI h 2 5 (zI h 2 3)) (fun v1 h1 => WP 66 125 [some (.ref 2)] (v1.toList ++ []) h1 Q)) (g16 : ((zI h 2 3) < (zI h 2 2)) → (¬ (zI h 3 ((zI h 2 3)).toNatClampNeg) < (Int32.ofInt 97)) → ((Int32.ofInt 122) < (zI h 3 ((zI h 2 3)).toNatClampNeg)) → vp_in (zI h 2 3) 800) (k19 : ((zI h 2 3) < (zI h 2 2)) → (¬ (zI h 3 ((zI h 2 3)).toNatClampNeg) < (Int32.ofInt 97)) → ((Int32.ofInt 122) < (zI h 3 ((zI h 2 3)).toNatClampNeg)) → ((zI h 3 ((zI h 2 3)).toNatClampNeg) < (Int32.ofInt 48)) → WP 70 0 [some (.ref 2)] [] (yI h 2 5 (zI h 2 3)) (fun v1 h1 => WP 66 132 [some (.ref 2)] (v1.toList ++ []) h1 Q)) (k22 : ((zI h 2 3) < (zI h 2 2)) → (¬ (zI h 3 ((zI h 2 3)).toNatClampNeg) < (Int32.ofInt 97)) → ((Int32.ofInt 122) < (zI h 3 ((zI h 2 3)).toNatClampNeg)) → (¬ (zI h 3 ((zI h 2 3)).toNatClampNeg) < (Int32.ofInt 48)) → ((Int32.ofInt 57) < (zI h 3 ((zI h 2 3)).toNatClampNeg)) → WP 70 0 [some (.ref 2)] [] (yI h 2 5 (zI h 2 3)) (fun v1 h1 => WP 66 132 [some (.ref 2)] (v1.toList ++ []) h1 Q)) (k24 : ((zI h 2 3) < (zI h 2 2)) → (¬ (zI h 3 ((zI h 2 3)).toNatClampNeg) < (Int32.ofInt 97)) → ((Int32.ofInt 122) < (zI h 3 ((zI h 2 3)).toNatClampNeg)) → (¬ (zI h 3 ((zI h 2 3)).toNatClampNeg) < (Int32.ofInt 48)) → (¬ (Int32.ofInt 57) < (zI h 3 ((zI h 2 3)).toNatClampNeg)) → WP 69 0 [some (.ref 2)] [] (yI h 2 5 (zI h 2 3)) (fun v1 h1 => WP 66 125 [some (.ref 2)] (v1.toList ++ []) h1 Q)) (k26 : ((zI h 2 3) < (zI h 2 2)) → (¬ (zI h 3 ((zI h 2 3)).toNatClampNeg) < (Int32.ofInt 97)) → (¬ (Int32.ofInt 122) < (zI h 3 ((zI h 2 3)).toNatClampNeg)) → WP 67 0 [some (.ref 2)] [] (yI h 2 5 (zI h 2 3)) (fun v1 h1 => WP 66 103 [some (.ref 2)] (v1.toList ++ []) h1 Q)) (k27 : (¬ (zI h 2 3) < (zI h 2 2)) → Q none (yI (yI (yI h 2 5 (zI h 2 3)) 2 4 (Int32.ofInt 0)) 2 6 (Int32.ofInt 0))) : WP 66 52 [some (.ref 2)] [] h Q :=
  B66_52 (S.T 2) (fun c1 => B66_84 (S.T 2) (S.R 2 0) ⟨(S.T 3), (S.bd 3 (g2 c1))⟩ (B71_0 (fun c3 => B71_16 (B71_17 oi0 (B66_96 (fun _ => B66_106 (S.T 2) (S.R 2 0) ⟨(S.T 3), (S.bd 3 (g5 c1 c3))⟩ (B72_0 (fun c6 => B72_16 (B72_17 oi0 (B66_118 (fun _ => B66_128 (S.T 2) (k8 c1 c3 c6)) (fun q => absurd (by decide) q)))) (fun c6 => B72_6 (fun c9 => B72_16 (B72_17 oi0 (B66_118 (fun _ => B66_128 (S.T 2) (k11 c1 c3 c6 c9)) (fun q => absurd (by decide) q)))) (fun c9 => B72_12 (B72_17 oi1 (B66_118 (fun q => absurd q (by decide)) (fun _ => B66_121 (S.T 2) (k13 c1 c3 c6 c9)))))))) (fun q => absurd (by decide) q)))) (fun c3 => B71_6 (fun c14 => B71_16 (B71_17 oi0 (B66_96 (fun _ => B66_106 (S.T 2) (S.R 2 0) ⟨(S.T 3), (S.bd 3 (g16 c1 c3 c14))⟩ (B72_0 (fun c17 => B72_16 (B72_17 oi0 (B66_118 (fun _ => B66_128 (S.T 2) (k19 c1 c3 c14 c17)) (fun q => absurd (by decide) q)))) (fun c17 => B72_6 (fun c20 => B72_16 (B72_17 oi0 (B66_118 (fun _ => B66_128 (S.T 2) (k22 c1 c3 c14 c17 c20)) (fun q => absurd (by decide) q)))) (fun c20 => B72_12 (B72_17 oi1 (B66_118 (fun q => absurd q (by decide)) (fun _ => B66_121 (S.T 2) (k24 c1 c3 c14 c17 c20)))))))) (fun q => absurd (by decide) q)))) (fun c14 => B71_12 (B71_17 oi1 (B66_96 (fun q => absurd q (by decide)) (fun _ => B66_99 (S.T 2) (k26 c1 c3 c14)))))))) (fun c1 => B66_71 (S.T 2) (B66_132 (k27 c1)))
theorem V66c {h : pm_H} {Q : Option Value → pm_H → Prop}  (S : SK h) (k1 : Q none h) : WP 66 132 [some (.ref 2)] [] h Q :=
  B66_132 k1
theorem V66d {h : pm_H} {Q : Option Value → pm_H → Prop}  (S : SK h) (k1 : Q none h) : WP 66 103 [some (.ref 2)] [] h Q :=
  B66_103 (B66_132 k1)
theorem V66e {h : pm_H} {Q : Option Value → pm_H → Prop}  (S : SK h) (k1 : Q none h) : WP 66 125 [some (.ref 2)] [] h Q :=
  B66_125 (B66_132 k1)
theorem V67 {h : pm_H} {Q : Option Value → pm_H → Prop}  (S : SK h) (k2 : ((zI h 2 2) ≤ (zI h 2 3)) → WP 67 39 [some (.ref 2)] [] h Q) (g3 : (¬ (zI h 2 2) ≤ (zI h 2 3)) → vp_in (zI h 2 3) 800) (k6 : (¬ (zI h 2 2) ≤ (zI h 2 3)) → ((zI h 3 ((zI h 2 3)).toNatClampNeg) < (Int32.ofInt 97)) → WP 67 39 [some (.ref 2)] [] h Q) (k9 : (¬ (zI h 2 2) ≤ (zI h 2 3)) → (¬ (zI h 3 ((zI h 2 3)).toNatClampNeg) < (Int32.ofInt 97)) → ((Int32.ofInt 122) < (zI h 3 ((zI h 2 3)).toNatClampNeg)) → WP 67 39 [some (.ref 2)] [] h Q) (k11 : (¬ (zI h 2 2) ≤ (zI h 2 3)) → (¬ (zI h 3 ((zI h 2 3)).toNatClampNeg) < (Int32.ofInt 97)) → (¬ (Int32.ofInt 122) < (zI h 3 ((zI h 2 3)).toNatClampNeg)) → WP 67 0 [some (.ref 2)] [] (yI h 2 3 ((zI h 2 3) + (Int32.ofInt 1))) Q) : WP 67 0 [some (.ref 2)] [] h Q :=
  B67_0 (S.T 2) (fun c1 => k2 c1) (fun c1 => B67_11 (S.T 2) (S.R 2 0) ⟨(S.T 3), (S.bd 3 (g3 c1))⟩ (B71_0 (fun c4 => B71_16 (B71_17 oi0 (B67_23 (fun _ => k6 c1 c4) (fun q => absurd (by decide) q)))) (fun c4 => B71_6 (fun c7 => B71_16 (B71_17 oi0 (B67_23 (fun _ => k9 c1 c4 c7) (fun q => absurd (by decide) q)))) (fun c7 => B71_12 (B71_17 oi1 (B67_23 (fun q => absurd q (by decide)) (fun _ => B67_26 (S.T 2) (k11 c1 c4 c7))))))))
theorem V67b {h : pm_H} {Q : Option Value → pm_H → Prop}  (S : SK h) (k2 : (¬ ((zI h 2 3) - (zI h 2 5)) = (Int32.ofInt 1)) → WP 68 0 [some (.ref 2), some (.retAddr 0), none] [] (yI h 2 4 (Int32.ofInt 1)) (fun v1 h1 => WP 67 82 [some (.ref 2)] (v1.toList ++ []) h1 Q)) (g3 : (((zI h 2 3) - (zI h 2 5)) = (Int32.ofInt 1)) → vp_in (zI h 2 5) 800) (k4 : (((zI h 2 3) - (zI h 2 5)) = (Int32.ofInt 1)) → Q none (yI (yI h 2 4 (Int32.ofInt 1)) 2 6 ((zI h 3 ((zI h 2 5)).toNatClampNeg) - (Int32.ofInt 97)))) : WP 67 39 [some (.ref 2)] [] h Q :=
  B67_39 (S.T 2) (fun c1 => B67_76 (S.T 2) (k2 c1)) (fun c1 => B67_57 (S.T 2) (S.R 2 0) ⟨(S.T 3), (S.bd 3 (g3 c1))⟩ (B67_136 (k4 c1)))
theorem V67c {h : pm_H} {Q : Option Value → pm_H → Prop} {b : Int32} (S : SK h) (k2 : (b = 0) → WP 68 0 [some (.ref 2), some (.retAddr 1), none] [] h (fun v1 h1 => WP 67 100 [some (.ref 2)] (v1.toList ++ []) h1 Q)) (k3 : (¬ b = 0) → Q none (yI h 2 6 (Int32.ofInt 26))) : WP 67 82 [some (.ref 2)] [.int b] h Q :=
  B67_82 (fun c1 => B67_94 (S.T 2) (k2 c1)) (fun c1 => B67_85 (S.T 2) (B67_136 (k3 c1)))
theorem V67d {h : pm_H} {Q : Option Value → pm_H → Prop} {b : Int32} (S : SK h) (k2 : (b = 0) → WP 68 0 [some (.ref 2), some (.retAddr 2), none] [] h (fun v1 h1 => WP 67 118 [some (.ref 2)] (v1.toList ++ []) h1 Q)) (k3 : (¬ b = 0) → Q none (yI h 2 6 (Int32.ofInt 27))) : WP 67 100 [some (.ref 2)] [.int b] h Q :=
  B67_100 (fun c1 => B67_112 (S.T 2) (k2 c1)) (fun c1 => B67_103 (S.T 2) (B67_136 (k3 c1)))
theorem V67e {h : pm_H} {Q : Option Value → pm_H → Prop} {b : Int32} (S : SK h) (k2 : (b = 0) → Q none (yI h 2 6 (Int32.ofInt 29))) (k3 : (¬ b = 0) → Q none (yI h 2 6 (Int32.ofInt 28))) : WP 67 118 [some (.ref 2)] [.int b] h Q :=
  B67_118 (fun c1 => B67_130 (S.T 2) (B67_136 (k2 c1))) (fun c1 => B67_121 (S.T 2) (B67_136 (k3 c1)))
theorem V68 {h : pm_H} {Q : Option Value → pm_H → Prop} {w : Nat} {d2 : Option Value} (S : SK h) (g1 : w < 3) (k3 : (((zI h 2 3) - (zI h 2 5)) = (Int32.ofInt ((pm_str w).length))) → WP 68 20 [some (.ref 2), some (.retAddr w), some (.int (Int32.ofInt 0))] [] h Q) (k4 : (¬ ((zI h 2 3) - (zI h 2 5)) = (Int32.ofInt ((pm_str w).length))) → Q (some (.int (Int32.ofInt 0))) h) : WP 68 0 [some (.ref 2), some (.retAddr w), d2] [] h Q :=
  B68_0 (S.T 2) g1 (fun c2 => B68_18 (k3 c2)) (fun c2 => B68_16 oi0 (k4 c2))
theorem V68L {h : pm_H} {Q : Option Value → pm_H → Prop} {w : Nat} {k : Nat} (S : SK h) (g1 : w < 3) (k3 : ((Int32.ofInt ((pm_str w).length)) ≤ (nI k)) → Q (some (.int (Int32.ofInt 1))) h) (g4 : (¬ (Int32.ofInt ((pm_str w).length)) ≤ (nI k)) → vp_in ((zI h 2 5) + (nI k)) 800) (g5 : (¬ (Int32.ofInt ((pm_str w).length)) ≤ (nI k)) → w < 3 ∧ vp_in (nI k) (pm_str w).length) (k7 : (¬ (Int32.ofInt ((pm_str w).length)) ≤ (nI k)) → ((zI h 3 (((zI h 2 5) + (nI k))).toNatClampNeg) = (Int32.ofInt ((pm_str w).getD ((nI k)).toNatClampNeg 0))) → WP 68 20 [some (.ref 2), some (.retAddr w), some (.int ((nI k) + (Int32.ofInt 1)))] [] h Q) (k8 : (¬ (Int32.ofInt ((pm_str w).length)) ≤ (nI k)) → (¬ (zI h 3 (((zI h 2 5) + (nI k))).toNatClampNeg) = (Int32.ofInt ((pm_str w).getD ((nI k)).toNatClampNeg 0))) → Q (some (.int (Int32.ofInt 0))) h) : WP 68 20 [some (.ref 2), some (.retAddr w), some (.int (nI k))] [] h Q :=
  B68_20 g1 (fun c2 => B68_55 oi1 (k3 c2)) (fun c2 => B68_28 (S.T 2) (S.R 2 0) ⟨(S.T 3), (S.bd 3 (g4 c2))⟩ (g5 c2) (fun c6 => B68_49 (k7 c2 c6)) (fun c6 => B68_47 oi0 (k8 c2 c6)))
theorem V69 {h : pm_H} {Q : Option Value → pm_H → Prop}  (S : SK h) (k1 : WP 69 5 [some (.ref 2)] [] (yI h 2 6 (Int32.ofInt 0)) Q) : WP 69 0 [some (.ref 2)] [] h Q :=
  B69_0 (S.T 2) (k1)
theorem V69L {h : pm_H} {Q : Option Value → pm_H → Prop}  (S : SK h) (k2 : ((zI h 2 2) ≤ (zI h 2 3)) → WP 69 68 [some (.ref 2)] [] h Q) (g3 : (¬ (zI h 2 2) ≤ (zI h 2 3)) → vp_in (zI h 2 3) 800) (k6 : (¬ (zI h 2 2) ≤ (zI h 2 3)) → ((zI h 3 ((zI h 2 3)).toNatClampNeg) < (Int32.ofInt 48)) → WP 69 68 [some (.ref 2)] [] h Q) (k9 : (¬ (zI h 2 2) ≤ (zI h 2 3)) → (¬ (zI h 3 ((zI h 2 3)).toNatClampNeg) < (Int32.ofInt 48)) → ((Int32.ofInt 57) < (zI h 3 ((zI h 2 3)).toNatClampNeg)) → WP 69 68 [some (.ref 2)] [] h Q) (g11 : (¬ (zI h 2 2) ≤ (zI h 2 3)) → (¬ (zI h 3 ((zI h 2 3)).toNatClampNeg) < (Int32.ofInt 48)) → (¬ (Int32.ofInt 57) < (zI h 3 ((zI h 2 3)).toNatClampNeg)) → vp_in (zI h 2 3) 800) (k12 : (¬ (zI h 2 2) ≤ (zI h 2 3)) → (¬ (zI h 3 ((zI h 2 3)).toNatClampNeg) < (Int32.ofInt 48)) → (¬ (Int32.ofInt 57) < (zI h 3 ((zI h 2 3)).toNatClampNeg)) → WP 69 5 [some (.ref 2)] [] (yI (yI h 2 6 (((zI h 2 6) * (Int32.ofInt 10)) + ((zI h 3 ((zI h 2 3)).toNatClampNeg) - (Int32.ofInt 48)))) 2 3 ((zI h 2 3) + (Int32.ofInt 1))) Q) : WP 69 5 [some (.ref 2)] [] h Q :=
  B69_5 (S.T 2) (fun c1 => k2 c1) (fun c1 => B69_16 (S.T 2) (S.R 2 0) ⟨(S.T 3), (S.bd 3 (g3 c1))⟩ (B72_0 (fun c4 => B72_16 (B72_17 oi0 (B69_28 (fun _ => k6 c1 c4) (fun q => absurd (by decide) q)))) (fun c4 => B72_6 (fun c7 => B72_16 (B72_17 oi0 (B69_28 (fun _ => k9 c1 c4 c7) (fun q => absurd (by decide) q)))) (fun c7 => B72_12 (B72_17 oi1 (B69_28 (fun q => absurd q (by decide)) (fun _ => B69_31 (S.T 2) (S.R 2 0) ⟨(S.T 3), (S.bd 3 (g11 c1 c4 c7))⟩ (k12 c1 c4 c7))))))))
theorem V69b {h : pm_H} {Q : Option Value → pm_H → Prop}  (S : SK h) (k2 : (((zI h 2 3) - (zI h 2 5)) ≤ (Int32.ofInt 4)) → Q none (yI h 2 4 (Int32.ofInt 2))) (k3 : (¬ ((zI h 2 3) - (zI h 2 5)) ≤ (Int32.ofInt 4)) → Q none (yI h 2 4 (Int32.ofInt 4))) : WP 69 68 [some (.ref 2)] [] h Q :=
  B69_68 (S.T 2) (fun c1 => B69_86 (B69_87 (S.T 2) (k2 c1))) (fun c1 => B69_82 (B69_87 (S.T 2) (k3 c1)))
theorem V70 {h : pm_H} {Q : Option Value → pm_H → Prop}  (S : SK h) (g1 : vp_in (zI h 2 3) 800) (k3 : ((zI h 3 ((zI h 2 3)).toNatClampNeg) = (Int32.ofInt 40)) → Q none (yI (yI (yI h 2 6 (zI h 3 ((zI h 2 3)).toNatClampNeg)) 2 3 ((zI h 2 3) + (Int32.ofInt 1))) 2 4 (Int32.ofInt 3))) (k4 : (¬ (zI h 3 ((zI h 2 3)).toNatClampNeg) = (Int32.ofInt 40)) → ((zI h 3 ((zI h 2 3)).toNatClampNeg) = (Int32.ofInt 41)) → Q none (yI (yI (yI h 2 6 (zI h 3 ((zI h 2 3)).toNatClampNeg)) 2 3 ((zI h 2 3) + (Int32.ofInt 1))) 2 4 (Int32.ofInt 3))) (k5 : (¬ (zI h 3 ((zI h 2 3)).toNatClampNeg) = (Int32.ofInt 40)) → (¬ (zI h 3 ((zI h 2 3)).toNatClampNeg) = (Int32.ofInt 41)) → ((zI h 3 ((zI h 2 3)).toNatClampNeg) = (Int32.ofInt 43)) → Q none (yI (yI (yI h 2 6 (zI h 3 ((zI h 2 3)).toNatClampNeg)) 2 3 ((zI h 2 3) + (Int32.ofInt 1))) 2 4 (Int32.ofInt 3))) (k6 : (¬ (zI h 3 ((zI h 2 3)).toNatClampNeg) = (Int32.ofInt 40)) → (¬ (zI h 3 ((zI h 2 3)).toNatClampNeg) = (Int32.ofInt 41)) → (¬ (zI h 3 ((zI h 2 3)).toNatClampNeg) = (Int32.ofInt 43)) → ((zI h 3 ((zI h 2 3)).toNatClampNeg) = (Int32.ofInt 44)) → Q none (yI (yI (yI h 2 6 (zI h 3 ((zI h 2 3)).toNatClampNeg)) 2 3 ((zI h 2 3) + (Int32.ofInt 1))) 2 4 (Int32.ofInt 3))) (k7 : (¬ (zI h 3 ((zI h 2 3)).toNatClampNeg) = (Int32.ofInt 40)) → (¬ (zI h 3 ((zI h 2 3)).toNatClampNeg) = (Int32.ofInt 41)) → (¬ (zI h 3 ((zI h 2 3)).toNatClampNeg) = (Int32.ofInt 43)) → (¬ (zI h 3 ((zI h 2 3)).toNatClampNeg) = (Int32.ofInt 44)) → ((zI h 3 ((zI h 2 3)).toNatClampNeg) = (Int32.ofInt 58)) → Q none (yI (yI (yI h 2 6 (zI h 3 ((zI h 2 3)).toNatClampNeg)) 2 3 ((zI h 2 3) + (Int32.ofInt 1))) 2 4 (Int32.ofInt 3))) (k8 : (¬ (zI h 3 ((zI h 2 3)).toNatClampNeg) = (Int32.ofInt 40)) → (¬ (zI h 3 ((zI h 2 3)).toNatClampNeg) = (Int32.ofInt 41)) → (¬ (zI h 3 ((zI h 2 3)).toNatClampNeg) = (Int32.ofInt 43)) → (¬ (zI h 3 ((zI h 2 3)).toNatClampNeg) = (Int32.ofInt 44)) → (¬ (zI h 3 ((zI h 2 3)).toNatClampNeg) = (Int32.ofInt 58)) → ((zI h 3 ((zI h 2 3)).toNatClampNeg) = (Int32.ofInt 59)) → Q none (yI (yI (yI h 2 6 (zI h 3 ((zI h 2 3)).toNatClampNeg)) 2 3 ((zI h 2 3) + (Int32.ofInt 1))) 2 4 (Int32.ofInt 3))) (k9 : (¬ (zI h 3 ((zI h 2 3)).toNatClampNeg) = (Int32.ofInt 40)) → (¬ (zI h 3 ((zI h 2 3)).toNatClampNeg) = (Int32.ofInt 41)) → (¬ (zI h 3 ((zI h 2 3)).toNatClampNeg) = (Int32.ofInt 43)) → (¬ (zI h 3 ((zI h 2 3)).toNatClampNeg) = (Int32.ofInt 44)) → (¬ (zI h 3 ((zI h 2 3)).toNatClampNeg) = (Int32.ofInt 58)) → (¬ (zI h 3 ((zI h 2 3)).toNatClampNeg) = (Int32.ofInt 59)) → Q none (yI (yI (yI h 2 6 (zI h 3 ((zI h 2 3)).toNatClampNeg)) 2 3 ((zI h 2 3) + (Int32.ofInt 1))) 2 4 (Int32.ofInt 4))) : WP 70 0 [some (.ref 2)] [] h Q :=
  B70_0 (S.T 2) (S.R 2 0) ⟨(S.T 3), (S.bd 3 g1)⟩ ((if c2_0 : (zI h 3 ((zI h 2 3)).toNatClampNeg) = (Int32.ofInt 40) then WP.pcs (by rw [c2_0]; rfl) (B70_120 (S.T 2) (B70_133 (k3 c2_0))) else (if c2_1 : (zI h 3 ((zI h 2 3)).toNatClampNeg) = (Int32.ofInt 41) then WP.pcs (by rw [c2_1]; rfl) (B70_120 (S.T 2) (B70_133 (k4 c2_0 c2_1))) else (if c2_2 : (zI h 3 ((zI h 2 3)).toNatClampNeg) = (Int32.ofInt 43) then WP.pcs (by rw [c2_2]; rfl) (B70_120 (S.T 2) (B70_133 (k5 c2_0 c2_1 c2_2))) else (if c2_3 : (zI h 3 ((zI h 2 3)).toNatClampNeg) = (Int32.ofInt 44) then WP.pcs (by rw [c2_3]; rfl) (B70_120 (S.T 2) (B70_133 (k6 c2_0 c2_1 c2_2 c2_3))) else (if c2_4 : (zI h 3 ((zI h 2 3)).toNatClampNeg) = (Int32.ofInt 58) then WP.pcs (by rw [c2_4]; rfl) (B70_120 (S.T 2) (B70_133 (k7 c2_0 c2_1 c2_2 c2_3 c2_4))) else (if c2_5 : (zI h 3 ((zI h 2 3)).toNatClampNeg) = (Int32.ofInt 59) then WP.pcs (by rw [c2_5]; rfl) (B70_120 (S.T 2) (B70_133 (k8 c2_0 c2_1 c2_2 c2_3 c2_4 c2_5))) else (WP.pcs (tsw70 c2_0 c2_1 c2_2 c2_3 c2_4 c2_5) (B70_128 (S.T 2) (B70_133 (k9 c2_0 c2_1 c2_2 c2_3 c2_4 c2_5)))))))))))
theorem isL_t {c : Nat} : isL c = true ↔ 97 ≤ c ∧ c ≤ 122 := by simp [isL]
theorem isD_t {c : Nat} : isD c = true ↔ 48 ≤ c ∧ c ≤ 57 := by simp [isD]
theorem isS_t {c : Nat} : isS c = true ↔ c = 32 ∨ c = 10 := by simp [isS]
theorem isG_t {c : Nat} : isG c = true ↔ c = 40 ∨ c = 41 ∨ c = 59 ∨ c = 44 ∨ c = 43 ∨ c = 58 := by simp [isG, or_assoc]
theorem isL_f {c : Nat} : isL c = false ↔ ¬ (97 ≤ c ∧ c ≤ 122) := by rw [← isL_t]; simp
theorem isD_f {c : Nat} : isD c = false ↔ ¬ (48 ≤ c ∧ c ≤ 57) := by rw [← isD_t]; simp
theorem isS_f {c : Nat} : isS c = false ↔ ¬ (c = 32 ∨ c = 10) := by rw [← isS_t]; simp
theorem isG_f {c : Nat} : isG c = false ↔ ¬ (c = 40 ∨ c = 41 ∨ c = 59 ∨ c = 44 ∨ c = 43 ∨ c = 58) := by rw [← isG_t]; simp
theorem spl_t {ch : Nat → Nat} {s e : Nat} {w : List Nat} : spl ch s e w = true ↔ e - s = w.length ∧ ∀ k, k < w.length → ch (s + k) = w.getD k 0 := by
  simp [spl, List.all_eq_true]
theorem spl_f {ch : Nat → Nat} {s e : Nat} {w : List Nat} : spl ch s e w = false ↔ ¬ (e - s = w.length ∧ ∀ k, k < w.length → ch (s + k) = w.getD k 0) := by
  rw [← spl_t]; simp
theorem str_b : ∀ w, w < 3 → (pm_str w).length ≤ 5 ∧ ∀ k, (pm_str w).getD k 0 < 128 := by
  intro w hw
  have key : ∀ l : List Nat, (∀ c ∈ l, c < 128) → ∀ k, l.getD k 0 < 128 := fun l hl k => by
    rw [List.getD_eq_getElem?_getD]
    cases hq : l[k]? with
    | none => decide
    | some c => exact hl c (List.mem_of_getElem? hq)
  have h3 : w = 0 ∨ w = 1 ∨ w = 2 := by omega
  rcases h3 with rfl | rfl | rfl
  · exact ⟨by decide, key _ (by decide)⟩
  · exact ⟨by decide, key _ (by decide)⟩
  · exact ⟨by decide, key _ (by decide)⟩
def TpS (h g : pm_H) : Prop := Same [2] h g ∧ ∀ k, k < 3 → zI g 2 k = zI h 2 k
theorem TpS.rf {h : pm_H} : TpS h h := ⟨Same.rf, fun _ _ => rfl⟩
theorem TpS.I {h g : pm_H} (t : TpS h g) (i : Nat) (v : Int32) (hi : 3 ≤ i) : TpS h (yI g 2 i v) := ⟨t.1.I 2 _ _ (by decide), fun k hk => by
  rw [zI_yI, if_pos rfl, va_upA, if_neg (by omega)]; exact t.2 k hk⟩
theorem TpS.tr {h g f : pm_H} (p : TpS h g) (q : TpS g f) : TpS h f := ⟨(p.1.tr q.1).sub (by decide), fun k hk => (q.2 k hk).trans (p.2 k hk)⟩
section STEP
variable {h : pm_H} {Q : Option Value → pm_H → Prop} {ch : Nat → Nat} {n : Nat}
theorem c66S (S : SK h) (hn : n ≤ 800) (e2 : zI h 2 2 = nI n) (hch : CH h 3 ch n) : ∀ m i (g : pm_H), i + m = n → TpS h g → zI g 2 3 = nI i → (∀ g', TpS h g' → zI g' 2 3 = nI (sc isS ch n i) → WP 66 52 [some (.ref 2)] [] g' Q) → WP 66 0 [some (.ref 2)] [] g Q := by
  intro m
  induction m with
  | zero =>
    intro i g hi tg e3 k
    obtain rfl : i = n := by omega
    have f2 : zI g 2 2 = nI i := by rw [tg.2 2 (by decide)]; exact e2
    rw [sc_n] at k
    have k' := k g tg e3
    refine V66  (tg.1.SK S) ?_ ?_ ?_ ?_ ?_ ?_ <;> simp (disch := omega) only [oi_l, oi_n, z_nI, nIA, nIM, nIS, nIlt, nIle, nIeq, nIC, vpI, Nat.add_sub_cancel, Nat.not_le, Nat.not_lt, Nat.not_lt_zero, Nat.le_refl, not_true_eq_false, not_false_eq_true, false_imp_iff, true_imp_iff, forall_const, implies_true, Nat.reduceEqDiff, Nat.reduceLeDiff, Nat.reduceLT, f2, e3] <;> first | omega | exact k'
  | succ m ih =>
    intro i g hi tg e3 k
    have f2 : zI g 2 2 = nI n := by rw [tg.2 2 (by decide)]; exact e2
    have hin : ¬ n ≤ i := by omega
    rw [sc_st (by omega)] at k
    rcases hch i (by omega) with ⟨c1, c2⟩ | ⟨c1, c2, c3, -⟩
    · rw [← tg.1.1 3 (by decide)] at c2
      cases hs : isS (ch i) with
      | true =>
        rw [if_pos hs] at k
        have I' := ih (i + 1) (yI g 2 3 (nI (i + 1))) (by omega) (tg.I 3 _ (by decide)) (by simp [zI_yI, va_upA]) k
        rw [isS_t] at hs
        by_cases h32 : ch i = 32
        · refine V66  (tg.1.SK S) ?_ ?_ ?_ ?_ ?_ ?_ <;> simp (disch := omega) only [oi_l, oi_n, z_nI, nIA, nIM, nIS, nIlt, nIle, nIeq, nIC, vpI, Nat.add_sub_cancel, Nat.not_le, Nat.not_lt, Nat.not_lt_zero, Nat.le_refl, not_true_eq_false, not_false_eq_true, false_imp_iff, true_imp_iff, forall_const, implies_true, Nat.reduceEqDiff, Nat.reduceLeDiff, Nat.reduceLT, f2, e3, c2, hin, eq_true h32] <;> first | omega | exact I'
        · have h10 : ch i = 10 := by omega
          refine V66  (tg.1.SK S) ?_ ?_ ?_ ?_ ?_ ?_ <;> simp (disch := omega) only [oi_l, oi_n, z_nI, nIA, nIM, nIS, nIlt, nIle, nIeq, nIC, vpI, Nat.add_sub_cancel, Nat.not_le, Nat.not_lt, Nat.not_lt_zero, Nat.le_refl, not_true_eq_false, not_false_eq_true, false_imp_iff, true_imp_iff, forall_const, implies_true, Nat.reduceEqDiff, Nat.reduceLeDiff, Nat.reduceLT, f2, e3, c2, hin, h32, eq_true h10] <;> first | omega | exact I'
      | false =>
        rw [if_neg (by rw [hs]; decide)] at k
        have k' := k g tg e3
        rw [isS_f] at hs
        refine V66  (tg.1.SK S) ?_ ?_ ?_ ?_ ?_ ?_ <;> simp (disch := omega) only [oi_l, oi_n, z_nI, nIA, nIM, nIS, nIlt, nIle, nIeq, nIC, vpI, Nat.add_sub_cancel, Nat.not_le, Nat.not_lt, Nat.not_lt_zero, Nat.le_refl, not_true_eq_false, not_false_eq_true, false_imp_iff, true_imp_iff, forall_const, implies_true, Nat.reduceEqDiff, Nat.reduceLeDiff, Nat.reduceLT, f2, e3, c2, hin, show ¬ ch i = 32 by omega, show ¬ ch i = 10 by omega] <;> first | omega | exact k'
    · rw [← tg.1.1 3 (by decide)] at c3
      have hs : isS (ch i) = false := by rw [isS_f]; omega
      rw [if_neg (by rw [hs]; decide)] at k
      have k' := k g tg e3
      refine V66  (tg.1.SK S) ?_ ?_ ?_ ?_ ?_ ?_ <;> simp (disch := omega) only [oi_l, oi_n, z_nI, nIA, nIM, nIS, nIlt, nIle, nIeq, nIC, vpI, Nat.add_sub_cancel, Nat.not_le, Nat.not_lt, Nat.not_lt_zero, Nat.le_refl, not_true_eq_false, not_false_eq_true, false_imp_iff, true_imp_iff, forall_const, implies_true, Nat.reduceEqDiff, Nat.reduceLeDiff, Nat.reduceLT, f2, e3, ngE c3, hin] <;> first | omega | exact k'
theorem c68 {s e w : Nat} (S : SK h) (hn : n ≤ 800) (hse : s ≤ e) (hen : e ≤ n) (hw : w < 3) (hch : CH h 3 ch n) (hl : ∀ j, s ≤ j → j < e → ch j < 128) (e3 : zI h 2 3 = nI e) (e5 : zI h 2 5 = nI s) (k0 : Q (some (.int (if spl ch s e (pm_str w) then nI 1 else nI 0))) h) : WP 68 0 [some (.ref 2), some (.retAddr w), none] [] h Q := by
  obtain ⟨sb1, sb2⟩ := str_b w hw
  by_cases hlen : e - s = (pm_str w).length
  · have L : ∀ m k, k + m = (pm_str w).length → (∀ j, j < k → ch (s + j) = (pm_str w).getD j 0) → WP 68 20 [some (.ref 2), some (.retAddr w), some (.int (nI k))] [] h Q := by
      intro m
      induction m with
      | zero =>
        intro k hk f
        obtain rfl : k = (pm_str w).length := by omega
        rw [if_pos (spl_t.mpr ⟨hlen, f⟩)] at k0
        refine V68L  S ?_ ?_ ?_ ?_ ?_ ?_ <;> simp (disch := omega) only [oi_l, oi_n, z_nI, nIA, nIM, nIS, nIlt, nIle, nIeq, nIC, vpI, Nat.add_sub_cancel, Nat.not_le, Nat.not_lt, Nat.not_lt_zero, Nat.le_refl, not_true_eq_false, not_false_eq_true, false_imp_iff, true_imp_iff, forall_const, implies_true, Nat.reduceEqDiff, Nat.reduceLeDiff, Nat.reduceLT, hw] <;> first | omega | exact k0
      | succ m ih =>
        intro k hk f
        have c8 := hl (s + k) (by omega) (by omega)
        have cv : zI h 3 (s + k) = nI (ch (s + k)) := by
          rcases hch (s + k) (by omega) with ⟨-, c2⟩ | ⟨c1, -⟩
          · exact c2
          · omega
        have sk := sb2 k
        by_cases ec : ch (s + k) = (pm_str w).getD k 0
        · have I' := ih (k + 1) (by omega) (fun j hj => by
            by_cases e' : j = k
            · rw [e']; exact ec
            · exact f j (by omega))
          refine V68L  S ?_ ?_ ?_ ?_ ?_ ?_ <;> simp (disch := omega) only [oi_l, oi_n, z_nI, nIA, nIM, nIS, nIlt, nIle, nIeq, nIC, vpI, Nat.add_sub_cancel, Nat.not_le, Nat.not_lt, Nat.not_lt_zero, Nat.le_refl, not_true_eq_false, not_false_eq_true, false_imp_iff, true_imp_iff, forall_const, implies_true, Nat.reduceEqDiff, Nat.reduceLeDiff, Nat.reduceLT, hw, e5, cv, eq_true ec, show ¬ (pm_str w).length ≤ k by omega, true_and] <;> first | omega | exact I'
        · have ns : spl ch s e (pm_str w) = false := spl_f.mpr (fun q => ec (q.2 k (by omega)))
          rw [ns] at k0
          simp only [Bool.false_eq_true, if_false] at k0
          refine V68L  S ?_ ?_ ?_ ?_ ?_ ?_ <;> simp (disch := omega) only [oi_l, oi_n, z_nI, nIA, nIM, nIS, nIlt, nIle, nIeq, nIC, vpI, Nat.add_sub_cancel, Nat.not_le, Nat.not_lt, Nat.not_lt_zero, Nat.le_refl, not_true_eq_false, not_false_eq_true, false_imp_iff, true_imp_iff, forall_const, implies_true, Nat.reduceEqDiff, Nat.reduceLeDiff, Nat.reduceLT, hw, e5, cv, ec, show ¬ (pm_str w).length ≤ k by omega, true_and] <;> first | omega | exact k0
    have L' := L _ 0 (Nat.zero_add _) (fun j hj => absurd hj (Nat.not_lt_zero _))
    refine V68  S ?_ ?_ ?_ <;> simp (disch := omega) only [oi_l, oi_n, z_nI, nIA, nIM, nIS, nIlt, nIle, nIeq, nIC, vpI, Nat.add_sub_cancel, Nat.not_le, Nat.not_lt, Nat.not_lt_zero, Nat.le_refl, not_true_eq_false, not_false_eq_true, false_imp_iff, true_imp_iff, forall_const, implies_true, Nat.reduceEqDiff, Nat.reduceLeDiff, Nat.reduceLT, hw, e3, e5, eq_true hlen] <;> first | omega | exact L'
  · have ns : spl ch s e (pm_str w) = false := spl_f.mpr (fun q => hlen q.1)
    rw [ns] at k0
    simp only [Bool.false_eq_true, if_false] at k0
    refine V68  S ?_ ?_ ?_ <;> simp (disch := omega) only [oi_l, oi_n, z_nI, nIA, nIM, nIS, nIlt, nIle, nIeq, nIC, vpI, Nat.add_sub_cancel, Nat.not_le, Nat.not_lt, Nat.not_lt_zero, Nat.le_refl, not_true_eq_false, not_false_eq_true, false_imp_iff, true_imp_iff, forall_const, implies_true, Nat.reduceEqDiff, Nat.reduceLeDiff, Nat.reduceLT, hw, e3, e5, hlen] <;> first | omega | exact k0
theorem c67 {s : Nat} (S : SK h) (hn : n ≤ 800) (hs : s < n) (hsl : isL (ch s) = true) (e2 : zI h 2 2 = nI n) (e3 : zI h 2 3 = nI s) (e5 : zI h 2 5 = nI s) (hch : CH h 3 ch n) (k0 : ∀ g, TpS h g → zI g 2 3 = nI (sc isL ch n s) → zI g 2 4 = nI 1 → zI g 2 5 = nI s → zI g 2 6 = nI (wv ch s (sc isL ch n s)) → Q none g) : WP 67 0 [some (.ref 2)] [] h Q := by
  have sb := sc_b (p := isL) (ch := ch) (show s ≤ n by omega)
  have hl : ∀ j, s ≤ j → j < sc isL ch n s → 97 ≤ ch j ∧ ch j ≤ 122 := fun j h1 h2 => isL_t.mp (scf_in isL ch (n - s) s j h1 h2)
  have s1 : s + 1 ≤ sc isL ch n s := by rw [sc_st hs, if_pos hsl]; exact (sc_b (by omega)).1
  have W : ∀ g, TpS h g → zI g 2 3 = nI (sc isL ch n s) → zI g 2 5 = nI s → WP 67 39 [some (.ref 2)] [] g Q := by
    intro g tg f3 f5
    have hchg : CH (yI g 2 4 (nI 1)) 3 ch n := fun j hj => by
      have := hch j hj
      rw [← tg.1.1 3 (by decide)] at this
      simp only [zI_yI, Nat.reduceEqDiff, if_false]; exact this
    have cs : zI g 3 s = nI (ch s) := by
      have h1 := hl s (by omega) (by omega)
      rw [tg.1.1 3 (by decide)]
      rcases hch s hs with ⟨-, c⟩ | ⟨c, -⟩
      · exact c
      · omega
    have h1 := hl s (by omega) (by omega)
    have t4 : TpS h (yI g 2 4 (nI 1)) := tg.I 4 _ (by decide)
    have fin : ∀ v, v = wv ch s (sc isL ch n s) → Q none (yI (yI g 2 4 (nI 1)) 2 6 (nI v)) := fun v ev => k0 _ (t4.I 6 _ (by decide)) (by simp [zI_yI, va_upA, f3]) (by simp [zI_yI, va_upA]) (by simp [zI_yI, va_upA, f5]) (by simp [zI_yI, va_upA, ev])
    by_cases l1 : sc isL ch n s - s = 1
    · have F' := fin (ch s - 97) (by unfold wv; rw [if_pos l1])
      refine V67b  (tg.1.SK S) ?_ ?_ ?_ <;> simp (disch := omega) only [oi_l, oi_n, z_nI, nIA, nIM, nIS, nIlt, nIle, nIeq, nIC, vpI, Nat.add_sub_cancel, Nat.not_le, Nat.not_lt, Nat.not_lt_zero, Nat.le_refl, not_true_eq_false, not_false_eq_true, false_imp_iff, true_imp_iff, forall_const, implies_true, Nat.reduceEqDiff, Nat.reduceLeDiff, Nat.reduceLT, f3, f5, cs, eq_true l1] <;> first | omega | exact F'
    · have g3 : zI (yI g 2 4 (nI 1)) 2 3 = nI (sc isL ch n s) := by simp [zI_yI, va_upA, f3]
      have g5 : zI (yI g 2 4 (nI 1)) 2 5 = nI s := by simp [zI_yI, va_upA, f5]
      have SK4 := t4.1.SK S
      have C : ∀ w, w < 3 → ∀ Q', Q' (some (.int (if spl ch s (sc isL ch n s) (pm_str w) then nI 1 else nI 0))) (yI g 2 4 (nI 1)) → WP 68 0 [some (.ref 2), some (.retAddr w), none] [] (yI g 2 4 (nI 1)) Q' := fun w hw Q' k => c68 SK4 hn (by omega) sb.2 hw hchg (fun j h1 h2 => by have := hl j h1 h2; omega) g3 g5 k
      refine V67b  (tg.1.SK S) ?_ ?_ ?_ <;> simp (disch := omega) only [oi_l, oi_n, z_nI, nIA, nIM, nIS, nIlt, nIle, nIeq, nIC, vpI, Nat.add_sub_cancel, Nat.not_le, Nat.not_lt, Nat.not_lt_zero, Nat.le_refl, not_true_eq_false, not_false_eq_true, false_imp_iff, true_imp_iff, forall_const, implies_true, Nat.reduceEqDiff, Nat.reduceLeDiff, Nat.reduceLT, f3, f5, l1] <;> (try omega)
      refine C 0 (by decide) _ ?_
      cases h0 : spl ch s (sc isL ch n s) wST with
      | true =>
        have F' := fin 26 (by unfold wv; rw [if_neg l1, if_pos h0])
        have h0' : spl ch s (sc isL ch n s) (pm_str 0) = true := h0
        refine V67c  SK4 ?_ ?_ <;> simp (disch := omega) only [oi_l, oi_n, z_nI, nIA, nIM, nIS, nIlt, nIle, nIeq, nIC, vpI, Nat.add_sub_cancel, Nat.not_le, Nat.not_lt, Nat.not_lt_zero, Nat.le_refl, not_true_eq_false, not_false_eq_true, false_imp_iff, true_imp_iff, forall_const, implies_true, Nat.reduceEqDiff, Nat.reduceLeDiff, Nat.reduceLT, h0', ↓reduceIte] <;> first | omega | exact F'
      | false =>
        have h0' : spl ch s (sc isL ch n s) (pm_str 0) = false := h0
        refine V67c  SK4 ?_ ?_ <;> simp (disch := omega) only [oi_l, oi_n, z_nI, nIA, nIM, nIS, nIlt, nIle, nIeq, nIC, vpI, Nat.add_sub_cancel, Nat.not_le, Nat.not_lt, Nat.not_lt_zero, Nat.le_refl, not_true_eq_false, not_false_eq_true, false_imp_iff, true_imp_iff, forall_const, implies_true, Nat.reduceEqDiff, Nat.reduceLeDiff, Nat.reduceLT, h0', ↓reduceIte, Bool.false_eq_true] <;> (try omega)
        refine C 1 (by decide) _ ?_
        cases h1' : spl ch s (sc isL ch n s) wCL with
        | true =>
          have F' := fin 27 (by unfold wv; rw [if_neg l1, if_neg (by rw [h0]; decide), if_pos h1'])
          have h1'' : spl ch s (sc isL ch n s) (pm_str 1) = true := h1'
          refine V67d  SK4 ?_ ?_ <;> simp (disch := omega) only [oi_l, oi_n, z_nI, nIA, nIM, nIS, nIlt, nIle, nIeq, nIC, vpI, Nat.add_sub_cancel, Nat.not_le, Nat.not_lt, Nat.not_lt_zero, Nat.le_refl, not_true_eq_false, not_false_eq_true, false_imp_iff, true_imp_iff, forall_const, implies_true, Nat.reduceEqDiff, Nat.reduceLeDiff, Nat.reduceLT, h1'', ↓reduceIte] <;> first | omega | exact F'
        | false =>
          have h1'' : spl ch s (sc isL ch n s) (pm_str 1) = false := h1'
          refine V67d  SK4 ?_ ?_ <;> simp (disch := omega) only [oi_l, oi_n, z_nI, nIA, nIM, nIS, nIlt, nIle, nIeq, nIC, vpI, Nat.add_sub_cancel, Nat.not_le, Nat.not_lt, Nat.not_lt_zero, Nat.le_refl, not_true_eq_false, not_false_eq_true, false_imp_iff, true_imp_iff, forall_const, implies_true, Nat.reduceEqDiff, Nat.reduceLeDiff, Nat.reduceLT, h1'', ↓reduceIte, Bool.false_eq_true] <;> (try omega)
          refine C 2 (by decide) _ ?_
          cases h2 : spl ch s (sc isL ch n s) wTU with
          | true =>
            have F' := fin 28 (by unfold wv; rw [if_neg l1, if_neg (by rw [h0]; decide), if_neg (by rw [h1']; decide), if_pos h2])
            have h2' : spl ch s (sc isL ch n s) (pm_str 2) = true := h2
            refine V67e  SK4 ?_ ?_ <;> simp (disch := omega) only [oi_l, oi_n, z_nI, nIA, nIM, nIS, nIlt, nIle, nIeq, nIC, vpI, Nat.add_sub_cancel, Nat.not_le, Nat.not_lt, Nat.not_lt_zero, Nat.le_refl, not_true_eq_false, not_false_eq_true, false_imp_iff, true_imp_iff, forall_const, implies_true, Nat.reduceEqDiff, Nat.reduceLeDiff, Nat.reduceLT, h2', ↓reduceIte] <;> first | omega | exact F'
          | false =>
            have F' := fin 29 (by unfold wv; rw [if_neg l1, if_neg (by rw [h0]; decide), if_neg (by rw [h1']; decide), if_neg (by rw [h2]; decide)])
            have h2' : spl ch s (sc isL ch n s) (pm_str 2) = false := h2
            refine V67e  SK4 ?_ ?_ <;> simp (disch := omega) only [oi_l, oi_n, z_nI, nIA, nIM, nIS, nIlt, nIle, nIeq, nIC, vpI, Nat.add_sub_cancel, Nat.not_le, Nat.not_lt, Nat.not_lt_zero, Nat.le_refl, not_true_eq_false, not_false_eq_true, false_imp_iff, true_imp_iff, forall_const, implies_true, Nat.reduceEqDiff, Nat.reduceLeDiff, Nat.reduceLT, h2', ↓reduceIte, Bool.false_eq_true] <;> first | omega | exact F'
  have L : ∀ m i (g : pm_H), i + m = n → TpS h g → zI g 2 3 = nI i → zI g 2 5 = nI s → sc isL ch n i = sc isL ch n s → WP 67 0 [some (.ref 2)] [] g Q := by
    intro m
    induction m with
    | zero =>
      intro i g hi tg f3 f5 es
      obtain rfl : i = n := by omega
      have f2 : zI g 2 2 = nI i := by rw [tg.2 2 (by decide)]; exact e2
      rw [sc_n] at es
      have W' := W g tg (by rw [f3, ← es]) f5
      refine V67  (tg.1.SK S) ?_ ?_ ?_ ?_ ?_ <;> simp (disch := omega) only [oi_l, oi_n, z_nI, nIA, nIM, nIS, nIlt, nIle, nIeq, nIC, vpI, Nat.add_sub_cancel, Nat.not_le, Nat.not_lt, Nat.not_lt_zero, Nat.le_refl, not_true_eq_false, not_false_eq_true, false_imp_iff, true_imp_iff, forall_const, implies_true, Nat.reduceEqDiff, Nat.reduceLeDiff, Nat.reduceLT, f2, f3] <;> first | omega | exact W'
    | succ m ih =>
      intro i g hi tg f3 f5 es
      have f2 : zI g 2 2 = nI n := by rw [tg.2 2 (by decide)]; exact e2
      have hin : ¬ n ≤ i := by omega
      rw [sc_st (by omega)] at es
      rcases hch i (by omega) with ⟨c1, c2⟩ | ⟨c1, c2, c3, -⟩
      · rw [← tg.1.1 3 (by decide)] at c2
        cases hz : isL (ch i) with
        | true =>
          rw [if_pos hz] at es
          have I' := ih (i + 1) (yI g 2 3 (nI (i + 1))) (by omega) (tg.I 3 _ (by decide)) (by simp [zI_yI, va_upA]) (by simp [zI_yI, va_upA, f5]) es
          rw [isL_t] at hz
          refine V67  (tg.1.SK S) ?_ ?_ ?_ ?_ ?_ <;> simp (disch := omega) only [oi_l, oi_n, z_nI, nIA, nIM, nIS, nIlt, nIle, nIeq, nIC, vpI, Nat.add_sub_cancel, Nat.not_le, Nat.not_lt, Nat.not_lt_zero, Nat.le_refl, not_true_eq_false, not_false_eq_true, false_imp_iff, true_imp_iff, forall_const, implies_true, Nat.reduceEqDiff, Nat.reduceLeDiff, Nat.reduceLT, f2, f3, c2, hin, show ¬ ch i < 97 by omega, show ¬ 122 < ch i by omega] <;> first | omega | exact I'
        | false =>
          rw [if_neg (by rw [hz]; decide)] at es
          have W' := W g tg (by rw [f3, es]) f5
          rw [isL_f] at hz
          by_cases lt : ch i < 97
          · refine V67  (tg.1.SK S) ?_ ?_ ?_ ?_ ?_ <;> simp (disch := omega) only [oi_l, oi_n, z_nI, nIA, nIM, nIS, nIlt, nIle, nIeq, nIC, vpI, Nat.add_sub_cancel, Nat.not_le, Nat.not_lt, Nat.not_lt_zero, Nat.le_refl, not_true_eq_false, not_false_eq_true, false_imp_iff, true_imp_iff, forall_const, implies_true, Nat.reduceEqDiff, Nat.reduceLeDiff, Nat.reduceLT, f2, f3, c2, hin, lt] <;> first | omega | exact W'
          · refine V67  (tg.1.SK S) ?_ ?_ ?_ ?_ ?_ <;> simp (disch := omega) only [oi_l, oi_n, z_nI, nIA, nIM, nIS, nIlt, nIle, nIeq, nIC, vpI, Nat.add_sub_cancel, Nat.not_le, Nat.not_lt, Nat.not_lt_zero, Nat.le_refl, not_true_eq_false, not_false_eq_true, false_imp_iff, true_imp_iff, forall_const, implies_true, Nat.reduceEqDiff, Nat.reduceLeDiff, Nat.reduceLT, f2, f3, c2, hin, lt, show 122 < ch i by omega] <;> first | omega | exact W'
      · rw [← tg.1.1 3 (by decide)] at c3
        have hz : isL (ch i) = false := by rw [isL_f]; omega
        rw [if_neg (by rw [hz]; decide)] at es
        have W' := W g tg (by rw [f3, es]) f5
        refine V67  (tg.1.SK S) ?_ ?_ ?_ ?_ ?_ <;> simp (disch := omega) only [oi_l, oi_n, z_nI, nIA, nIM, nIS, nIlt, nIle, nIeq, nIC, vpI, Nat.add_sub_cancel, Nat.not_le, Nat.not_lt, Nat.not_lt_zero, Nat.le_refl, not_true_eq_false, not_false_eq_true, false_imp_iff, true_imp_iff, forall_const, implies_true, Nat.reduceEqDiff, Nat.reduceLeDiff, Nat.reduceLT, f2, f3, ngLt c3, hin] <;> first | omega | exact W'
  exact L (n - s) s h (by omega) TpS.rf e3 e5 rfl
theorem nv_b {s : Nat} : ∀ k, k ≤ 4 → (∀ j, j < k → 48 ≤ ch (s + j) ∧ ch (s + j) ≤ 57) → nv ch s k < 10 ^ k
  | 0, _, _ => Nat.lt_succ_self 0
  | k + 1, hk, h => by
    have := nv_b k (by omega) (fun j hj => h j (by omega))
    have := h k (by omega)
    rw [nv, Nat.pow_succ]
    omega
theorem p10 {k : Nat} (h : k ≤ 4) : 10 ^ k ≤ 10000 := Nat.pow_le_pow_right (n := 10) (by decide) h
theorem c69 {s : Nat} (S : SK h) (hn : n ≤ 800) (hs : s < n) (e2 : zI h 2 2 = nI n) (e3 : zI h 2 3 = nI s) (e5 : zI h 2 5 = nI s) (hch : CH h 3 ch n) (k0 : ∀ g, TpS h g → zI g 2 3 = nI (sc isD ch n s) → zI g 2 4 = nI (if sc isD ch n s - s ≤ 4 then 2 else 4) → zI g 2 5 = nI s → (sc isD ch n s - s ≤ 4 → zI g 2 6 = nI (nv ch s (sc isD ch n s - s))) → Q none g) : WP 69 0 [some (.ref 2)] [] h Q := by
  have sb := sc_b (p := isD) (ch := ch) (show s ≤ n by omega)
  have hl : ∀ j, s ≤ j → j < sc isD ch n s → 48 ≤ ch j ∧ ch j ≤ 57 := fun j h1 h2 => isD_t.mp (scf_in isD ch (n - s) s j h1 h2)
  have W : ∀ g, TpS h g → zI g 2 3 = nI (sc isD ch n s) → zI g 2 5 = nI s → (sc isD ch n s - s ≤ 4 → zI g 2 6 = nI (nv ch s (sc isD ch n s - s))) → WP 69 68 [some (.ref 2)] [] g Q := by
    intro g tg f3 f5 f6
    by_cases l4 : sc isD ch n s - s ≤ 4
    · have F' := k0 (yI g 2 4 (nI 2)) (tg.I 4 _ (by decide)) (by simp [zI_yI, va_upA, f3]) (by rw [if_pos l4]; simp [zI_yI, va_upA]) (by simp [zI_yI, va_upA, f5]) (fun _ => by simp [zI_yI, va_upA, f6 l4])
      refine V69b  (tg.1.SK S) ?_ ?_ <;> simp (disch := omega) only [oi_l, oi_n, z_nI, nIA, nIM, nIS, nIlt, nIle, nIeq, nIC, vpI, Nat.add_sub_cancel, Nat.not_le, Nat.not_lt, Nat.not_lt_zero, Nat.le_refl, not_true_eq_false, not_false_eq_true, false_imp_iff, true_imp_iff, forall_const, implies_true, Nat.reduceEqDiff, Nat.reduceLeDiff, Nat.reduceLT, f3, f5, eq_true l4] <;> first | omega | exact F'
    · have F' := k0 (yI g 2 4 (nI 4)) (tg.I 4 _ (by decide)) (by simp [zI_yI, va_upA, f3]) (by rw [if_neg l4]; simp [zI_yI, va_upA]) (by simp [zI_yI, va_upA, f5]) (fun q => absurd q l4)
      refine V69b  (tg.1.SK S) ?_ ?_ <;> simp (disch := omega) only [oi_l, oi_n, z_nI, nIA, nIM, nIS, nIlt, nIle, nIeq, nIC, vpI, Nat.add_sub_cancel, Nat.not_le, Nat.not_lt, Nat.not_lt_zero, Nat.le_refl, not_true_eq_false, not_false_eq_true, false_imp_iff, true_imp_iff, forall_const, implies_true, Nat.reduceEqDiff, Nat.reduceLeDiff, Nat.reduceLT, f3, f5, l4] <;> first | omega | exact F'
  have L : ∀ m i (g : pm_H), i + m = n → s ≤ i → TpS h g → zI g 2 3 = nI i → zI g 2 5 = nI s → (i - s ≤ 4 → zI g 2 6 = nI (nv ch s (i - s))) → i ≤ sc isD ch n s → sc isD ch n i = sc isD ch n s → WP 69 5 [some (.ref 2)] [] g Q := by
    intro m
    induction m with
    | zero =>
      intro i g hi hsi tg f3 f5 f6 li es
      obtain rfl : i = n := by omega
      have f2 : zI g 2 2 = nI i := by rw [tg.2 2 (by decide)]; exact e2
      rw [sc_n] at es
      have W' := W g tg (by rw [f3, ← es]) f5 (by rw [← es]; exact f6)
      refine V69L  (tg.1.SK S) ?_ ?_ ?_ ?_ ?_ ?_ <;> simp (disch := omega) only [oi_l, oi_n, z_nI, nIA, nIM, nIS, nIlt, nIle, nIeq, nIC, vpI, Nat.add_sub_cancel, Nat.not_le, Nat.not_lt, Nat.not_lt_zero, Nat.le_refl, not_true_eq_false, not_false_eq_true, false_imp_iff, true_imp_iff, forall_const, implies_true, Nat.reduceEqDiff, Nat.reduceLeDiff, Nat.reduceLT, f2, f3] <;> first | omega | exact W'
    | succ m ih =>
      intro i g hi hsi tg f3 f5 f6 li es
      have f2 : zI g 2 2 = nI n := by rw [tg.2 2 (by decide)]; exact e2
      have hin : ¬ n ≤ i := by omega
      rw [sc_st (by omega)] at es
      rcases hch i (by omega) with ⟨c1, c2⟩ | ⟨c1, c2, c3, -⟩
      · rw [← tg.1.1 3 (by decide)] at c2
        cases hz : isD (ch i) with
        | true =>
          rw [if_pos hz] at es
          have lj : i + 1 ≤ sc isD ch n s := by rw [← es]; exact (sc_b (by omega)).1
          rw [isD_t] at hz
          have I' : ∀ v, (i + 1 - s ≤ 4 → v = nI (nv ch s (i + 1 - s))) → WP 69 5 [some (.ref 2)] [] (yI (yI g 2 6 v) 2 3 (nI (i + 1))) Q := fun v ev => ih (i + 1) _ (by omega) (by omega) ((tg.I 6 _ (by decide)).I 3 _ (by decide)) (by simp [zI_yI, va_upA]) (by simp [zI_yI, va_upA, f5]) (fun q => by simp [zI_yI, va_upA, ev q]) lj es
          have J' := I' (zI g 2 6 * nI 10 + nI (ch i - 48)) (fun q => by
            have b := nv_b (ch := ch) (s := s) (i - s) (by omega) (fun j hj => hl (s + j) (by omega) (by omega))
            have := p10 (show i - s ≤ 4 by omega)
            rw [f6 (by omega), nIM, nIA, show i + 1 - s = (i - s) + 1 by omega, nv, show s + (i - s) = i by omega])
          refine V69L  (tg.1.SK S) ?_ ?_ ?_ ?_ ?_ ?_ <;> simp (disch := omega) only [oi_l, oi_n, z_nI, nIA, nIM, nIS, nIlt, nIle, nIeq, nIC, vpI, Nat.add_sub_cancel, Nat.not_le, Nat.not_lt, Nat.not_lt_zero, Nat.le_refl, not_true_eq_false, not_false_eq_true, false_imp_iff, true_imp_iff, forall_const, implies_true, Nat.reduceEqDiff, Nat.reduceLeDiff, Nat.reduceLT, f2, f3, c2, hin, show ¬ ch i < 48 by omega, show ¬ 57 < ch i by omega] <;> first | omega | exact J'
        | false =>
          rw [if_neg (by rw [hz]; decide)] at es
          have W' := W g tg (by rw [f3, es]) f5 (by rw [← es]; exact f6)
          rw [isD_f] at hz
          by_cases lt : ch i < 48
          · refine V69L  (tg.1.SK S) ?_ ?_ ?_ ?_ ?_ ?_ <;> simp (disch := omega) only [oi_l, oi_n, z_nI, nIA, nIM, nIS, nIlt, nIle, nIeq, nIC, vpI, Nat.add_sub_cancel, Nat.not_le, Nat.not_lt, Nat.not_lt_zero, Nat.le_refl, not_true_eq_false, not_false_eq_true, false_imp_iff, true_imp_iff, forall_const, implies_true, Nat.reduceEqDiff, Nat.reduceLeDiff, Nat.reduceLT, f2, f3, c2, hin, lt] <;> first | omega | exact W'
          · refine V69L  (tg.1.SK S) ?_ ?_ ?_ ?_ ?_ ?_ <;> simp (disch := omega) only [oi_l, oi_n, z_nI, nIA, nIM, nIS, nIlt, nIle, nIeq, nIC, vpI, Nat.add_sub_cancel, Nat.not_le, Nat.not_lt, Nat.not_lt_zero, Nat.le_refl, not_true_eq_false, not_false_eq_true, false_imp_iff, true_imp_iff, forall_const, implies_true, Nat.reduceEqDiff, Nat.reduceLeDiff, Nat.reduceLT, f2, f3, c2, hin, lt, show 57 < ch i by omega] <;> first | omega | exact W'
      · rw [← tg.1.1 3 (by decide)] at c3
        have hz : isD (ch i) = false := by rw [isD_f]; omega
        rw [if_neg (by rw [hz]; decide)] at es
        have W' := W g tg (by rw [f3, es]) f5 (by rw [← es]; exact f6)
        refine V69L  (tg.1.SK S) ?_ ?_ ?_ ?_ ?_ ?_ <;> simp (disch := omega) only [oi_l, oi_n, z_nI, nIA, nIM, nIS, nIlt, nIle, nIeq, nIC, vpI, Nat.add_sub_cancel, Nat.not_le, Nat.not_lt, Nat.not_lt_zero, Nat.le_refl, not_true_eq_false, not_false_eq_true, false_imp_iff, true_imp_iff, forall_const, implies_true, Nat.reduceEqDiff, Nat.reduceLeDiff, Nat.reduceLT, f2, f3, ngLt c3, hin] <;> first | omega | exact W'
  refine V69 S ?_
  exact L (n - s) s _ (by omega) (Nat.le_refl _) (TpS.rf.I 6 _ (by decide)) (by simp [zI_yI, va_upA, e3]) (by simp [zI_yI, va_upA, e5]) (fun _ => by rw [Nat.sub_self]; simp [zI_yI, va_upA, nv]; rfl) sb.1 rfl
theorem c70 {s : Nat} (S : SK h) (hn : n ≤ 800) (hs : s < n) (e3 : zI h 2 3 = nI s) (e5 : zI h 2 5 = nI s) (hch : CH h 3 ch n) (k0 : ∀ g, TpS h g → zI g 2 3 = nI (s + 1) → zI g 2 4 = nI (if isG (ch s) then 3 else 4) → zI g 2 5 = nI s → (isG (ch s) = true → zI g 2 6 = nI (ch s)) → Q none g) : WP 70 0 [some (.ref 2)] [] h Q := by
  have F : ∀ b kd, kd = (if isG (ch s) then 3 else 4) → (isG (ch s) = true → b = nI (ch s)) → Q none (yI (yI (yI h 2 6 b) 2 3 (nI (s + 1))) 2 4 (nI kd)) := fun b kd ek eb => k0 _ (((TpS.rf.I 6 _ (by decide)).I 3 _ (by decide)).I 4 _ (by decide)) (by simp [zI_yI, va_upA]) (by rw [← ek]; simp [zI_yI, va_upA]) (by simp [zI_yI, va_upA, e5]) (fun q => by simp [zI_yI, va_upA, eb q])
  rcases hch s hs with ⟨c1, c2⟩ | ⟨c1, c2, c3, -⟩
  · cases hg : isG (ch s) with
    | true =>
      have F' := F (nI (ch s)) 3 (by rw [hg]; rfl) (fun _ => rfl)
      have hg' := isG_t.mp hg
      rcases hg' with q | q | q | q | q | q <;> (refine V70  S ?_ ?_ ?_ ?_ ?_ ?_ ?_ ?_ <;> simp (disch := omega) only [oi_l, oi_n, z_nI, nIA, nIM, nIS, nIlt, nIle, nIeq, nIC, vpI, Nat.add_sub_cancel, Nat.not_le, Nat.not_lt, Nat.not_lt_zero, Nat.le_refl, not_true_eq_false, not_false_eq_true, false_imp_iff, true_imp_iff, forall_const, implies_true, Nat.reduceEqDiff, Nat.reduceLeDiff, Nat.reduceLT, e3, c2, q] <;> first | omega | (rw [q] at F'; exact F') | exact F')
    | false =>
      have F' := F (nI (ch s)) 4 (by rw [hg]; rfl) (fun _ => rfl)
      have hg' := isG_f.mp hg
      refine V70  S ?_ ?_ ?_ ?_ ?_ ?_ ?_ ?_ <;> simp (disch := omega) only [oi_l, oi_n, z_nI, nIA, nIM, nIS, nIlt, nIle, nIeq, nIC, vpI, Nat.add_sub_cancel, Nat.not_le, Nat.not_lt, Nat.not_lt_zero, Nat.le_refl, not_true_eq_false, not_false_eq_true, false_imp_iff, true_imp_iff, forall_const, implies_true, Nat.reduceEqDiff, Nat.reduceLeDiff, Nat.reduceLT, e3, c2, show ¬ ch s = 40 by omega, show ¬ ch s = 41 by omega, show ¬ ch s = 59 by omega, show ¬ ch s = 44 by omega, show ¬ ch s = 43 by omega, show ¬ ch s = 58 by omega] <;> first | omega | exact F'
  · have hg : isG (ch s) = false := by rw [isG_f]; omega
    have F' := F (zI h 3 s) 4 (by rw [hg]; rfl) (fun q => by rw [hg] at q; cases q)
    refine V70  S ?_ ?_ ?_ ?_ ?_ ?_ ?_ ?_ <;> simp (disch := omega) only [oi_l, oi_n, z_nI, nIA, nIM, nIS, nIlt, nIle, nIeq, nIC, vpI, Nat.add_sub_cancel, Nat.not_le, Nat.not_lt, Nat.not_lt_zero, Nat.le_refl, not_true_eq_false, not_false_eq_true, false_imp_iff, true_imp_iff, forall_const, implies_true, Nat.reduceEqDiff, Nat.reduceLeDiff, Nat.reduceLT, e3, ngE c3] <;> first | omega | exact F'
/-- Tape.step -/
theorem c66 {i : Nat} (S : SK h) (hn : n ≤ 800) (hi : i ≤ n) (e2 : zI h 2 2 = nI n) (e3 : zI h 2 3 = nI i) (hch : CH h 3 ch n) (k0 : ∀ g, TpS h g → zI g 2 3 = nI (tnx ch n i) → zI g 2 4 = nI (tkd ch n i) → zI g 2 5 = nI (tpl ch n i) → (tkd ch n i = 1 ∨ tkd ch n i = 2 ∨ tkd ch n i = 3 → zI g 2 6 = nI (tvl ch n i)) → Q none g) : WP 66 0 [some (.ref 2)] [] h Q := by
  refine c66S S hn e2 hch (n - i) i h (by omega) TpS.rf e3 (fun g tg f3 => ?_)
  have S' := tg.1.SK S
  have f2 : zI g 2 2 = nI n := by rw [tg.2 2 (by decide)]; exact e2
  have sb := sc_b (p := isS) (ch := ch) hi
  have epl : sc isS ch n i = tpl ch n i := rfl
  rw [epl] at f3 sb
  obtain ⟨s, es⟩ : ∃ s, s = tpl ch n i := ⟨_, rfl⟩
  have tk : tkd ch n i = if n ≤ s then 0 else if isL (ch s) then 1 else if isD (ch s) then (if sc isD ch n s - s ≤ 4 then 2 else 4) else if isG (ch s) then 3 else 4 := by rw [es]; rfl
  have tn : tnx ch n i = if n ≤ s then s else if isL (ch s) then sc isL ch n s else if isD (ch s) then sc isD ch n s else s + 1 := by rw [es]; rfl
  have tv : tvl ch n i = if isL (ch s) then wv ch s (tnx ch n i) else if isD (ch s) then nv ch s (tnx ch n i - s) else ch s := by rw [es]; rfl
  rw [← es] at f3 sb k0
  by_cases hend : n ≤ s
  · rw [if_pos hend] at tk tn
    have F' := k0 (yI (yI (yI g 2 5 (nI s)) 2 4 (nI 0)) 2 6 (nI 0)) (((tg.I 5 _ (by decide)).I 4 _ (by decide)).I 6 _ (by decide)) (by rw [tn]; simp [zI_yI, va_upA, f3]) (by rw [tk]; simp [zI_yI, va_upA]) (by simp [zI_yI, va_upA]) (by rw [tk]; omega)
    refine V66b  S' ?_ ?_ ?_ ?_ ?_ ?_ ?_ ?_ ?_ ?_ ?_ <;> simp (disch := omega) only [oi_l, oi_n, z_nI, nIA, nIM, nIS, nIlt, nIle, nIeq, nIC, vpI, Nat.add_sub_cancel, Nat.not_le, Nat.not_lt, Nat.not_lt_zero, Nat.le_refl, not_true_eq_false, not_false_eq_true, false_imp_iff, true_imp_iff, forall_const, implies_true, Nat.reduceEqDiff, Nat.reduceLeDiff, Nat.reduceLT, f2, f3, show ¬ s < n by omega] <;> first | omega | exact F'
  · rw [if_neg hend] at tk tn
    have hs : s < n := by omega
    have t5 : TpS h (yI g 2 5 (nI s)) := tg.I 5 _ (by decide)
    have S5 := t5.1.SK S
    have q2 : zI (yI g 2 5 (nI s)) 2 2 = nI n := by simp [zI_yI, va_upA, f2]
    have q3 : zI (yI g 2 5 (nI s)) 2 3 = nI s := by simp [zI_yI, va_upA, f3]
    have q5 : zI (yI g 2 5 (nI s)) 2 5 = nI s := by simp [zI_yI, va_upA]
    have hchg : CH (yI g 2 5 (nI s)) 3 ch n := fun j hj => by
      have := hch j hj
      rw [← tg.1.1 3 (by decide)] at this
      simp only [zI_yI, Nat.reduceEqDiff, if_false]; exact this
    have G : isL (ch s) = false → isD (ch s) = false → ∀ Q', (∀ g', TpS (yI g 2 5 (nI s)) g' → zI g' 2 3 = nI (tnx ch n i) → zI g' 2 4 = nI (tkd ch n i) → zI g' 2 5 = nI s → (tkd ch n i = 1 ∨ tkd ch n i = 2 ∨ tkd ch n i = 3 → zI g' 2 6 = nI (tvl ch n i)) → Q' none g') → WP 70 0 [some (.ref 2)] [] (yI g 2 5 (nI s)) Q' := by
      intro hL hD Q' kk
      rw [hL, hD] at tk tn tv
      simp only [Bool.false_eq_true, if_false] at tk tn tv
      refine c70 S5 hn hs q3 q5 hchg (fun g' t' r3 r4 r5 r6 => kk g' t' (by rw [tn]; exact r3) (by rw [tk]; exact r4) r5 (fun q => by
        rw [tv]
        refine r6 ?_
        cases hz : isG (ch s)
        · rw [tk, hz] at q; simp at q
        · rfl))
    have F : ∀ g', TpS (yI g 2 5 (nI s)) g' → zI g' 2 3 = nI (tnx ch n i) → zI g' 2 4 = nI (tkd ch n i) → zI g' 2 5 = nI s → (tkd ch n i = 1 ∨ tkd ch n i = 2 ∨ tkd ch n i = 3 → zI g' 2 6 = nI (tvl ch n i)) → Q none g' := fun g' t' => k0 g' (t5.tr t')
    have cs := hch s hs
    rw [← tg.1.1 3 (by decide)] at cs
    cases hL : isL (ch s) with
    | true =>
      have hL' := isL_t.mp hL
      rcases cs with ⟨c1, c2⟩ | ⟨c1, -⟩
      · have W' := c67 (Q := fun v1 h1 => WP 66 103 [some (.ref 2)] (v1.toList ++ []) h1 Q) S5 hn hs hL q2 q3 q5 hchg (fun g' t' r3 r4 r5 r6 => V66d (t'.1.SK S5) (F g' t' (by rw [tn, if_pos hL]; exact r3) (by rw [tk, if_pos hL]; exact r4) r5 (fun _ => by rw [tv, if_pos hL, tn, if_pos hL]; exact r6)))
        refine V66b  S' ?_ ?_ ?_ ?_ ?_ ?_ ?_ ?_ ?_ ?_ ?_ <;> simp (disch := omega) only [oi_l, oi_n, z_nI, nIA, nIM, nIS, nIlt, nIle, nIeq, nIC, vpI, Nat.add_sub_cancel, Nat.not_le, Nat.not_lt, Nat.not_lt_zero, Nat.le_refl, not_true_eq_false, not_false_eq_true, false_imp_iff, true_imp_iff, forall_const, implies_true, Nat.reduceEqDiff, Nat.reduceLeDiff, Nat.reduceLT, f2, f3, c2, hs, show ¬ ch s < 97 by omega, show ¬ 122 < ch s by omega] <;> first | omega | exact W'
      · omega
    | false =>
      have hL' := isL_f.mp hL
      cases hD : isD (ch s) with
      | true =>
        have hD' := isD_t.mp hD
        rcases cs with ⟨c1, c2⟩ | ⟨c1, -⟩
        · have W' := c69 (Q := fun v1 h1 => WP 66 125 [some (.ref 2)] (v1.toList ++ []) h1 Q) S5 hn hs q2 q3 q5 hchg (fun g' t' r3 r4 r5 r6 => V66e (t'.1.SK S5) (F g' t' (by rw [tn, hL, hD]; exact r3) (by rw [tk, hL, hD]; exact r4) r5 (fun q => by
            rw [tv, tn, hL, hD]
            refine r6 ?_
            by_cases l4 : sc isD ch n s - s ≤ 4
            · exact l4
            · rw [tk, hL, hD] at q
              simp only [Bool.false_eq_true, if_false, if_true, if_neg l4] at q
              omega)))
          refine V66b  S' ?_ ?_ ?_ ?_ ?_ ?_ ?_ ?_ ?_ ?_ ?_ <;> simp (disch := omega) only [oi_l, oi_n, z_nI, nIA, nIM, nIS, nIlt, nIle, nIeq, nIC, vpI, Nat.add_sub_cancel, Nat.not_le, Nat.not_lt, Nat.not_lt_zero, Nat.le_refl, not_true_eq_false, not_false_eq_true, false_imp_iff, true_imp_iff, forall_const, implies_true, Nat.reduceEqDiff, Nat.reduceLeDiff, Nat.reduceLT, f2, f3, c2, hs, show ch s < 97 by omega, show ¬ ch s < 48 by omega, show ¬ 57 < ch s by omega] <;> first | omega | exact W'
        · omega
      | false =>
        have hD' := isD_f.mp hD
        have W' := G hL hD (fun v1 h1 => WP 66 132 [some (.ref 2)] (v1.toList ++ []) h1 Q) (fun g' t' r3 r4 r5 r6 => V66c (t'.1.SK S5) (F g' t' r3 r4 r5 r6))
        rcases cs with ⟨c1, c2⟩ | ⟨c1, c2, c3, -⟩
        · by_cases a1 : ch s < 97
          · by_cases a2 : ch s < 48
            · refine V66b  S' ?_ ?_ ?_ ?_ ?_ ?_ ?_ ?_ ?_ ?_ ?_ <;> simp (disch := omega) only [oi_l, oi_n, z_nI, nIA, nIM, nIS, nIlt, nIle, nIeq, nIC, vpI, Nat.add_sub_cancel, Nat.not_le, Nat.not_lt, Nat.not_lt_zero, Nat.le_refl, not_true_eq_false, not_false_eq_true, false_imp_iff, true_imp_iff, forall_const, implies_true, Nat.reduceEqDiff, Nat.reduceLeDiff, Nat.reduceLT, f2, f3, c2, hs, a1, a2] <;> first | omega | exact W'
            · refine V66b  S' ?_ ?_ ?_ ?_ ?_ ?_ ?_ ?_ ?_ ?_ ?_ <;> simp (disch := omega) only [oi_l, oi_n, z_nI, nIA, nIM, nIS, nIlt, nIle, nIeq, nIC, vpI, Nat.add_sub_cancel, Nat.not_le, Nat.not_lt, Nat.not_lt_zero, Nat.le_refl, not_true_eq_false, not_false_eq_true, false_imp_iff, true_imp_iff, forall_const, implies_true, Nat.reduceEqDiff, Nat.reduceLeDiff, Nat.reduceLT, f2, f3, c2, hs, a1, a2, show 57 < ch s by omega] <;> first | omega | exact W'
          · refine V66b  S' ?_ ?_ ?_ ?_ ?_ ?_ ?_ ?_ ?_ ?_ ?_ <;> simp (disch := omega) only [oi_l, oi_n, z_nI, nIA, nIM, nIS, nIlt, nIle, nIeq, nIC, vpI, Nat.add_sub_cancel, Nat.not_le, Nat.not_lt, Nat.not_lt_zero, Nat.le_refl, not_true_eq_false, not_false_eq_true, false_imp_iff, true_imp_iff, forall_const, implies_true, Nat.reduceEqDiff, Nat.reduceLeDiff, Nat.reduceLT, f2, f3, c2, hs, a1, show 122 < ch s by omega, show ¬ ch s < 48 by omega, show 57 < ch s by omega] <;> first | omega | exact W'
        · refine V66b  S' ?_ ?_ ?_ ?_ ?_ ?_ ?_ ?_ ?_ ?_ ?_ <;> simp (disch := omega) only [oi_l, oi_n, z_nI, nIA, nIM, nIS, nIlt, nIle, nIeq, nIC, vpI, Nat.add_sub_cancel, Nat.not_le, Nat.not_lt, Nat.not_lt_zero, Nat.le_refl, not_true_eq_false, not_false_eq_true, false_imp_iff, true_imp_iff, forall_const, implies_true, Nat.reduceEqDiff, Nat.reduceLeDiff, Nat.reduceLT, f2, f3, hs, ngLt c3] <;> first | omega | exact W'
end STEP

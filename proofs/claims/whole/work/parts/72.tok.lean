/-! TOKENS -/
def isL (c : Nat) : Bool := decide (97 ≤ c) && decide (c ≤ 122)
def isD (c : Nat) : Bool := decide (48 ≤ c) && decide (c ≤ 57)
def isS (c : Nat) : Bool := decide (c = 32) || decide (c = 10)
def isG (c : Nat) : Bool := decide (c = 40) || decide (c = 41) || decide (c = 59) || decide (c = 44) || decide (c = 43) || decide (c = 58)
/-- from a place on over all that is of a sort -/
def scf (p : Nat → Bool) (ch : Nat → Nat) : Nat → Nat → Nat
  | 0, i => i
  | m + 1, i => if p (ch i) then scf p ch m (i + 1) else i
theorem scf_b (p : Nat → Bool) (ch : Nat → Nat) : ∀ m i, i ≤ scf p ch m i ∧ scf p ch m i ≤ i + m
  | 0, i => ⟨Nat.le_refl _, Nat.le_refl _⟩
  | m + 1, i => by
    rw [scf]
    split
    · have := scf_b p ch m (i + 1); omega
    · omega
theorem scf_in (p : Nat → Bool) (ch : Nat → Nat) : ∀ m i j, i ≤ j → j < scf p ch m i → p (ch j) = true
  | 0, i, j, h1, h2 => by rw [scf] at h2; omega
  | m + 1, i, j, h1, h2 => by
    rw [scf] at h2
    split at h2
    · rename_i hq
      by_cases e : j = i
      · rw [e]; exact hq
      · exact scf_in p ch m (i + 1) j (by omega) h2
    · omega
theorem scf_out (p : Nat → Bool) (ch : Nat → Nat) : ∀ m i, scf p ch m i < i + m → p (ch (scf p ch m i)) = false
  | 0, i, h => by rw [scf] at h; omega
  | m + 1, i, h => by
    rw [scf] at h ⊢
    split
    · rename_i hq
      rw [if_pos hq] at h
      exact scf_out p ch m (i + 1) (by omega)
    · rename_i hq
      cases hz : p (ch i)
      · rfl
      · exact absurd hz hq
def sc (p : Nat → Bool) (ch : Nat → Nat) (n i : Nat) : Nat := scf p ch (n - i) i
theorem sc_st {p : Nat → Bool} {ch : Nat → Nat} {n i : Nat} (h : i < n) : sc p ch n i = if p (ch i) then sc p ch n (i + 1) else i := by
  unfold sc
  rw [show n - i = (n - (i + 1)) + 1 by omega, scf]
theorem sc_n {p : Nat → Bool} {ch : Nat → Nat} {n : Nat} : sc p ch n n = n := by unfold sc; rw [Nat.sub_self]; rfl
theorem sc_b {p : Nat → Bool} {ch : Nat → Nat} {n i : Nat} (h : i ≤ n) : i ≤ sc p ch n i ∧ sc p ch n i ≤ n := by
  have := scf_b p ch (n - i) i
  unfold sc
  omega
/-- does a word spell -/
def spl (ch : Nat → Nat) (s e : Nat) (w : List Nat) : Bool := decide (e - s = w.length) && (List.range w.length).all (fun k => decide (ch (s + k) = w.getD k 0))
def wST : List Nat := [115, 116, 114, 105, 112]
def wCL : List Nat := [99, 108, 111, 116, 104]
def wTU : List Nat := [116, 117, 114, 110]
def wv (ch : Nat → Nat) (s e : Nat) : Nat := if e - s = 1 then ch s - 97 else if spl ch s e wST then 26 else if spl ch s e wCL then 27 else if spl ch s e wTU then 28 else 29
def nv (ch : Nat → Nat) (s : Nat) : Nat → Nat
  | 0 => 0
  | k + 1 => nv ch s k * 10 + (ch (s + k) - 48)
section TOK
variable (ch : Nat → Nat) (n : Nat)
def tpl (i : Nat) : Nat := sc isS ch n i
def tkd (i : Nat) : Nat := if n ≤ tpl ch n i then 0 else if isL (ch (tpl ch n i)) then 1 else if isD (ch (tpl ch n i)) then (if sc isD ch n (tpl ch n i) - tpl ch n i ≤ 4 then 2 else 4) else if isG (ch (tpl ch n i)) then 3 else 4
def tnx (i : Nat) : Nat := if n ≤ tpl ch n i then tpl ch n i else if isL (ch (tpl ch n i)) then sc isL ch n (tpl ch n i) else if isD (ch (tpl ch n i)) then sc isD ch n (tpl ch n i) else tpl ch n i + 1
def tvl (i : Nat) : Nat := if isL (ch (tpl ch n i)) then wv ch (tpl ch n i) (tnx ch n i) else if isD (ch (tpl ch n i)) then nv ch (tpl ch n i) (tnx ch n i - tpl ch n i) else ch (tpl ch n i)
end TOK
/-- a byte row tells these -/
def CH (h : pm_H) (row : Nat) (ch : Nat → Nat) (n : Nat) : Prop := ∀ j, j < n → (ch j < 128 ∧ zI h row j = nI (ch j)) ∨ (128 ≤ ch j ∧ ch j < 256 ∧ zI h row j < 0 ∧ zI h row j &&& nI 255 = nI (ch j))
theorem V67 {h : pm_H} {Q : Option Value → pm_H → Prop} {x : Int32} (S : SK h) (k3 : (x < (Int32.ofInt 97)) → (x < (Int32.ofInt 48)) → WP 67 28 [some (.int x)] [] h Q) (k5 : (x < (Int32.ofInt 97)) → (¬ x < (Int32.ofInt 48)) → ((Int32.ofInt 57) < x) → WP 67 28 [some (.int x)] [] h Q) (k6 : (x < (Int32.ofInt 97)) → (¬ x < (Int32.ofInt 48)) → (¬ (Int32.ofInt 57) < x) → Q (some (.int (Int32.ofInt 2))) h) (k9 : (¬ x < (Int32.ofInt 97)) → ((Int32.ofInt 122) < x) → (x < (Int32.ofInt 48)) → WP 67 28 [some (.int x)] [] h Q) (k11 : (¬ x < (Int32.ofInt 97)) → ((Int32.ofInt 122) < x) → (¬ x < (Int32.ofInt 48)) → ((Int32.ofInt 57) < x) → WP 67 28 [some (.int x)] [] h Q) (k12 : (¬ x < (Int32.ofInt 97)) → ((Int32.ofInt 122) < x) → (¬ x < (Int32.ofInt 48)) → (¬ (Int32.ofInt 57) < x) → Q (some (.int (Int32.ofInt 2))) h) (k13 : (¬ x < (Int32.ofInt 97)) → (¬ (Int32.ofInt 122) < x) → Q (some (.int (Int32.ofInt 1))) h) : WP 67 0 [some (.int x)] [] h Q :=
  B67_0 (fun c1 => B67_14 (fun c2 => k3 c1 c2) (fun c2 => B67_20 (fun c4 => k5 c1 c2 c4) (fun c4 => B67_26 (k6 c1 c2 c4)))) (fun c1 => B67_6 (fun c7 => B67_14 (fun c8 => k9 c1 c7 c8) (fun c8 => B67_20 (fun c10 => k11 c1 c7 c8 c10) (fun c10 => B67_26 (k12 c1 c7 c8 c10)))) (fun c7 => B67_12 (k13 c1 c7)))
theorem V67s {h : pm_H} {Q : Option Value → pm_H → Prop} {x : Int32} (S : SK h) (k2 : (x = (Int32.ofInt 10)) → Q (some (.int (Int32.ofInt 5))) h) (k3 : (¬ x = (Int32.ofInt 10)) → (x = (Int32.ofInt 32)) → Q (some (.int (Int32.ofInt 5))) h) (k4 : (¬ x = (Int32.ofInt 10)) → (¬ x = (Int32.ofInt 32)) → (x = (Int32.ofInt 40)) → Q (some (.int (Int32.ofInt 3))) h) (k5 : (¬ x = (Int32.ofInt 10)) → (¬ x = (Int32.ofInt 32)) → (¬ x = (Int32.ofInt 40)) → (x = (Int32.ofInt 41)) → Q (some (.int (Int32.ofInt 3))) h) (k6 : (¬ x = (Int32.ofInt 10)) → (¬ x = (Int32.ofInt 32)) → (¬ x = (Int32.ofInt 40)) → (¬ x = (Int32.ofInt 41)) → (x = (Int32.ofInt 43)) → Q (some (.int (Int32.ofInt 3))) h) (k7 : (¬ x = (Int32.ofInt 10)) → (¬ x = (Int32.ofInt 32)) → (¬ x = (Int32.ofInt 40)) → (¬ x = (Int32.ofInt 41)) → (¬ x = (Int32.ofInt 43)) → (x = (Int32.ofInt 44)) → Q (some (.int (Int32.ofInt 3))) h) (k8 : (¬ x = (Int32.ofInt 10)) → (¬ x = (Int32.ofInt 32)) → (¬ x = (Int32.ofInt 40)) → (¬ x = (Int32.ofInt 41)) → (¬ x = (Int32.ofInt 43)) → (¬ x = (Int32.ofInt 44)) → (x = (Int32.ofInt 58)) → Q (some (.int (Int32.ofInt 3))) h) (k9 : (¬ x = (Int32.ofInt 10)) → (¬ x = (Int32.ofInt 32)) → (¬ x = (Int32.ofInt 40)) → (¬ x = (Int32.ofInt 41)) → (¬ x = (Int32.ofInt 43)) → (¬ x = (Int32.ofInt 44)) → (¬ x = (Int32.ofInt 58)) → (x = (Int32.ofInt 59)) → Q (some (.int (Int32.ofInt 3))) h) (k10 : (¬ x = (Int32.ofInt 10)) → (¬ x = (Int32.ofInt 32)) → (¬ x = (Int32.ofInt 40)) → (¬ x = (Int32.ofInt 41)) → (¬ x = (Int32.ofInt 43)) → (¬ x = (Int32.ofInt 44)) → (¬ x = (Int32.ofInt 58)) → (¬ x = (Int32.ofInt 59)) → Q (some (.int (Int32.ofInt 4))) h) : WP 67 28 [some (.int x)] [] h Q :=
  B67_28 ((if c1_0 : x = (Int32.ofInt 10) then WP.pcs (by rw [c1_0]; rfl) (B67_104 (k2 c1_0)) else (if c1_1 : x = (Int32.ofInt 32) then WP.pcs (by rw [c1_1]; rfl) (B67_104 (k3 c1_0 c1_1)) else (if c1_2 : x = (Int32.ofInt 40) then WP.pcs (by rw [c1_2]; rfl) (B67_106 (k4 c1_0 c1_1 c1_2)) else (if c1_3 : x = (Int32.ofInt 41) then WP.pcs (by rw [c1_3]; rfl) (B67_106 (k5 c1_0 c1_1 c1_2 c1_3)) else (if c1_4 : x = (Int32.ofInt 43) then WP.pcs (by rw [c1_4]; rfl) (B67_106 (k6 c1_0 c1_1 c1_2 c1_3 c1_4)) else (if c1_5 : x = (Int32.ofInt 44) then WP.pcs (by rw [c1_5]; rfl) (B67_106 (k7 c1_0 c1_1 c1_2 c1_3 c1_4 c1_5)) else (if c1_6 : x = (Int32.ofInt 58) then WP.pcs (by rw [c1_6]; rfl) (B67_106 (k8 c1_0 c1_1 c1_2 c1_3 c1_4 c1_5 c1_6)) else (if c1_7 : x = (Int32.ofInt 59) then WP.pcs (by rw [c1_7]; rfl) (B67_106 (k9 c1_0 c1_1 c1_2 c1_3 c1_4 c1_5 c1_6 c1_7)) else (WP.pcs (by simp [pm_tsw, pm_lsw, sw_ne c1_0, sw_ne c1_1, sw_ne c1_2, sw_ne c1_3, sw_ne c1_4, sw_ne c1_5, sw_ne c1_6, sw_ne c1_7]) (B67_108 (k10 c1_0 c1_1 c1_2 c1_3 c1_4 c1_5 c1_6 c1_7))))))))))))
theorem V66 {h : pm_H} {Q : Option Value → pm_H → Prop} {d1 : Option Value} (S : SK h) (k2 : ((zI h 2 2) ≤ (zI h 2 3)) → WP 66 40 [some (.ref 2), d1] [] h Q) (g3 : (¬ (zI h 2 2) ≤ (zI h 2 3)) → vp_in (zI h 2 3) 800) (k4 : (¬ (zI h 2 2) ≤ (zI h 2 3)) → WP 67 0 [some (.int (zI h 3 ((zI h 2 3)).toNatClampNeg))] [] h (fun v1 h1 => WP 66 23 [some (.ref 2), d1] (v1.toList ++ []) h1 Q)) : WP 66 0 [some (.ref 2), d1] [] h Q :=
  B66_0 (S.T 2) (fun c1 => k2 c1) (fun c1 => B66_11 (S.T 2) (S.R 2 0) ⟨(S.T 3), (S.bd 3 (g3 c1))⟩ (k4 c1))
theorem V66a {h : pm_H} {Q : Option Value → pm_H → Prop} {b : Int32} {d1 : Option Value} (S : SK h) (k2 : (¬ b = (Int32.ofInt 5)) → WP 66 40 [some (.ref 2), d1] [] h Q) (k3 : (b = (Int32.ofInt 5)) → WP 66 0 [some (.ref 2), d1] [] (yI h 2 3 ((zI h 2 3) + (Int32.ofInt 1))) Q) : WP 66 23 [some (.ref 2), d1] [.int b] h Q :=
  B66_23 (fun c1 => k2 c1) (fun c1 => B66_27 (S.T 2) (k3 c1))
theorem V66b {h : pm_H} {Q : Option Value → pm_H → Prop} {d1 : Option Value} (S : SK h) (g2 : ((zI h 2 3) < (zI h 2 2)) → vp_in (zI h 2 3) 800) (k3 : ((zI h 2 3) < (zI h 2 2)) → WP 67 0 [some (.int (zI h 3 ((zI h 2 3)).toNatClampNeg))] [] (yI h 2 5 (zI h 2 3)) (fun v1 h1 => WP 66 78 [some (.ref 2), d1] (v1.toList ++ [.ref 2]) h1 Q)) (k4 : (¬ (zI h 2 3) < (zI h 2 2)) → Q none (yI (yI h 2 5 (zI h 2 3)) 2 4 (Int32.ofInt 0))) : WP 66 40 [some (.ref 2), d1] [] h Q :=
  B66_40 (S.T 2) (fun c1 => B66_65 (S.T 2) (S.R 2 0) ⟨(S.T 3), (S.bd 3 (g2 c1))⟩ (k3 c1)) (fun c1 => B66_59 (S.T 2) (k4 c1))
theorem V66c {h : pm_H} {Q : Option Value → pm_H → Prop} {b : Int32} {d1 : Option Value} (S : SK h) (k2 : (b = (Int32.ofInt 1)) → WP 66 113 [some (.ref 2), some (.int (Int32.ofInt 1))] [] (yI (yI h 2 4 b) 2 3 ((zI h 2 3) + (Int32.ofInt 1))) Q) (k4 : (¬ b = (Int32.ofInt 1)) → (¬ b = (Int32.ofInt 2)) → WP 66 113 [some (.ref 2), some (.int (Int32.ofInt 0))] [] (yI (yI h 2 4 b) 2 3 ((zI h 2 3) + (Int32.ofInt 1))) Q) (k5 : (¬ b = (Int32.ofInt 1)) → (b = (Int32.ofInt 2)) → WP 66 113 [some (.ref 2), some (.int (Int32.ofInt 1))] [] (yI (yI h 2 4 b) 2 3 ((zI h 2 3) + (Int32.ofInt 1))) Q) : WP 66 78 [some (.ref 2), d1] [.int b, .ref 2] h Q :=
  B66_78 (S.T 2) (S.T 2) (fun c1 => B66_107 (B66_112 (k2 c1))) (fun c1 => B66_99 (S.T 2) (fun c3 => B66_111 (B66_112 (k4 c1 c3))) (fun c3 => B66_107 (B66_112 (k5 c1 c3))))
theorem V66L {h : pm_H} {Q : Option Value → pm_H → Prop} {w : Int32} (S : SK h) (k2 : (w = 0) → WP 66 160 [some (.ref 2), some (.int w)] [] h Q) (k4 : (¬ w = 0) → ((zI h 2 2) ≤ (zI h 2 3)) → WP 66 160 [some (.ref 2), some (.int w)] [] h Q) (g5 : (¬ w = 0) → (¬ (zI h 2 2) ≤ (zI h 2 3)) → vp_in (zI h 2 3) 800) (k6 : (¬ w = 0) → (¬ (zI h 2 2) ≤ (zI h 2 3)) → WP 67 0 [some (.int (zI h 3 ((zI h 2 3)).toNatClampNeg))] [] h (fun v1 h1 => WP 66 140 [some (.ref 2), some (.int w)] (v1.toList ++ []) h1 Q)) : WP 66 113 [some (.ref 2), some (.int w)] [] h Q :=
  B66_113 (fun c1 => k2 c1) (fun c1 => B66_117 (S.T 2) (fun c3 => k4 c1 c3) (fun c3 => B66_128 (S.T 2) (S.R 2 0) ⟨(S.T 3), (S.bd 3 (g5 c1 c3))⟩ (k6 c1 c3)))
theorem V66m {h : pm_H} {Q : Option Value → pm_H → Prop} {w : Int32} {b : Int32} (S : SK h) (k2 : (¬ b = (zI h 2 4)) → WP 66 160 [some (.ref 2), some (.int w)] [] h Q) (k3 : (b = (zI h 2 4)) → WP 66 113 [some (.ref 2), some (.int w)] [] (yI h 2 3 ((zI h 2 3) + (Int32.ofInt 1))) Q) : WP 66 140 [some (.ref 2), some (.int w)] [.int b] h Q :=
  B66_140 (S.T 2) (fun c1 => k2 c1) (fun c1 => B66_147 (S.T 2) (k3 c1))
theorem V66e {h : pm_H} {Q : Option Value → pm_H → Prop} {w : Int32} (S : SK h) (k2 : (¬ (zI h 2 4) = (Int32.ofInt 2)) → Q none h) (k4 : ((zI h 2 4) = (Int32.ofInt 2)) → (((zI h 2 3) - (zI h 2 5)) ≤ (Int32.ofInt 4)) → Q none h) (k5 : ((zI h 2 4) = (Int32.ofInt 2)) → (¬ ((zI h 2 3) - (zI h 2 5)) ≤ (Int32.ofInt 4)) → Q none (yI h 2 4 (Int32.ofInt 4))) : WP 66 160 [some (.ref 2), some (.int w)] [] h Q :=
  B66_160 (S.T 2) (fun c1 => B66_186 (k2 c1)) (fun c1 => B66_168 (S.T 2) (fun c3 => B66_186 (k4 c1 c3)) (fun c3 => B66_181 (S.T 2) (B66_186 (k5 c1 c3))))
theorem V68 {h : pm_H} {Q : Option Value → pm_H → Prop} {w : Nat} {d2 : Option Value} (S : SK h) (k2 : (¬ (zI h 2 4) = (Int32.ofInt 1)) → Q (some (.int (Int32.ofInt 0))) h) (g3 : ((zI h 2 4) = (Int32.ofInt 1)) → w < 3) (k5 : ((zI h 2 4) = (Int32.ofInt 1)) → (((zI h 2 3) - (zI h 2 5)) = (Int32.ofInt ((pm_str w).length))) → WP 68 28 [some (.ref 2), some (.retAddr w), some (.int (Int32.ofInt 0))] [] h Q) (k6 : ((zI h 2 4) = (Int32.ofInt 1)) → (¬ ((zI h 2 3) - (zI h 2 5)) = (Int32.ofInt ((pm_str w).length))) → Q (some (.int (Int32.ofInt 0))) h) : WP 68 0 [some (.ref 2), some (.retAddr w), d2] [] h Q :=
  B68_0 (S.T 2) (fun c1 => B68_24 oi0 (k2 c1)) (fun c1 => B68_8 (S.T 2) (g3 c1) (fun c4 => B68_26 (k5 c1 c4)) (fun c4 => B68_24 oi0 (k6 c1 c4)))
theorem V68L {h : pm_H} {Q : Option Value → pm_H → Prop} {w : Nat} {k : Nat} (S : SK h) (g1 : w < 3) (k3 : ((Int32.ofInt ((pm_str w).length)) ≤ (nI k)) → Q (some (.int (Int32.ofInt 1))) h) (g4 : (¬ (Int32.ofInt ((pm_str w).length)) ≤ (nI k)) → vp_in ((zI h 2 5) + (nI k)) 800) (g5 : (¬ (Int32.ofInt ((pm_str w).length)) ≤ (nI k)) → w < 3 ∧ vp_in (nI k) (pm_str w).length) (k7 : (¬ (Int32.ofInt ((pm_str w).length)) ≤ (nI k)) → ((zI h 3 (((zI h 2 5) + (nI k))).toNatClampNeg) = (Int32.ofInt ((pm_str w).getD ((nI k)).toNatClampNeg 0))) → WP 68 28 [some (.ref 2), some (.retAddr w), some (.int ((nI k) + (Int32.ofInt 1)))] [] h Q) (k8 : (¬ (Int32.ofInt ((pm_str w).length)) ≤ (nI k)) → (¬ (zI h 3 (((zI h 2 5) + (nI k))).toNatClampNeg) = (Int32.ofInt ((pm_str w).getD ((nI k)).toNatClampNeg 0))) → Q (some (.int (Int32.ofInt 0))) h) : WP 68 28 [some (.ref 2), some (.retAddr w), some (.int (nI k))] [] h Q :=
  B68_28 g1 (fun c2 => B68_63 oi1 (k3 c2)) (fun c2 => B68_36 (S.T 2) (S.R 2 0) ⟨(S.T 3), (S.bd 3 (g4 c2))⟩ (g5 c2) (fun c6 => B68_57 (k7 c2 c6)) (fun c6 => B68_55 oi0 (k8 c2 c6)))
theorem V69 {h : pm_H} {Q : Option Value → pm_H → Prop} {d1 : Option Value} {d2 : Option Value} (S : SK h) (k1 : WP 69 7 [some (.ref 2), some (.int (Int32.ofInt 0)), some (.int (zI h 2 5))] [] h Q) : WP 69 0 [some (.ref 2), d1, d2] [] h Q :=
  B69_0 (S.T 2) (k1)
theorem V69L {h : pm_H} {Q : Option Value → pm_H → Prop} {v : Nat} {k : Nat} (S : SK h) (k2 : ((zI h 2 3) ≤ (nI k)) → Q (some (.int (nI v))) h) (k4 : (¬ (zI h 2 3) ≤ (nI k)) → (¬ (zI h 2 4) = (Int32.ofInt 2)) → Q (some (.int (nI v))) h) (g5 : (¬ (zI h 2 3) ≤ (nI k)) → ((zI h 2 4) = (Int32.ofInt 2)) → vp_in (nI k) 800) (k6 : (¬ (zI h 2 3) ≤ (nI k)) → ((zI h 2 4) = (Int32.ofInt 2)) → WP 69 7 [some (.ref 2), some (.int (((nI v) * (Int32.ofInt 10)) + ((zI h 3 ((nI k)).toNatClampNeg) - (Int32.ofInt 48)))), some (.int ((nI k) + (Int32.ofInt 1)))] [] h Q) : WP 69 7 [some (.ref 2), some (.int (nI v)), some (.int (nI k))] [] h Q :=
  B69_7 (S.T 2) (fun c1 => B69_44 (k2 c1)) (fun c1 => B69_15 (S.T 2) (fun c3 => B69_44 (k4 c1 c3)) (fun c3 => B69_23 (S.T 2) (S.R 2 0) ⟨(S.T 3), (S.bd 3 (g5 c1 c3))⟩ (k6 c1 c3)))
theorem isL_t {c : Nat} : isL c = true ↔ 97 ≤ c ∧ c ≤ 122 := by simp [isL]
theorem isD_t {c : Nat} : isD c = true ↔ 48 ≤ c ∧ c ≤ 57 := by simp [isD]
theorem isS_t {c : Nat} : isS c = true ↔ c = 32 ∨ c = 10 := by simp [isS]
theorem isG_t {c : Nat} : isG c = true ↔ c = 40 ∨ c = 41 ∨ c = 59 ∨ c = 44 ∨ c = 43 ∨ c = 58 := by simp [isG, or_assoc]
theorem isL_f {c : Nat} : isL c = false ↔ ¬ (97 ≤ c ∧ c ≤ 122) := by rw [← isL_t]; simp
theorem isD_f {c : Nat} : isD c = false ↔ ¬ (48 ≤ c ∧ c ≤ 57) := by rw [← isD_t]; simp
theorem isS_f {c : Nat} : isS c = false ↔ ¬ (c = 32 ∨ c = 10) := by rw [← isS_t]; simp
theorem isG_f {c : Nat} : isG c = false ↔ ¬ (c = 40 ∨ c = 41 ∨ c = 59 ∨ c = 44 ∨ c = 43 ∨ c = 58) := by rw [← isG_t]; simp
theorem spl_t {ch : Nat → Nat} {s e : Nat} {w : List Nat} : spl ch s e w = true ↔ e - s = w.length ∧ ∀ k, k < w.length → ch (s + k) = w.getD k 0 := by
  simp [spl, List.all_eq_true]
theorem spl_f {ch : Nat → Nat} {s e : Nat} {w : List Nat} : spl ch s e w = false ↔ ¬ (e - s = w.length ∧ ∀ k, k < w.length → ch (s + k) = w.getD k 0) := by
  rw [← spl_t]; simp
theorem str_b : ∀ w, w < 3 → (pm_str w).length ≤ 5 ∧ ∀ k, (pm_str w).getD k 0 < 128 := by
  intro w hw
  have key : ∀ l : List Nat, (∀ c ∈ l, c < 128) → ∀ k, l.getD k 0 < 128 := fun l hl k => by
    rw [List.getD_eq_getElem?_getD]
    cases hq : l[k]? with
    | none => decide
    | some c => exact hl c (List.mem_of_getElem? hq)
  have h3 : w = 0 ∨ w = 1 ∨ w = 2 := by omega
  rcases h3 with rfl | rfl | rfl
  · exact ⟨by decide, key _ (by decide)⟩
  · exact ⟨by decide, key _ (by decide)⟩
  · exact ⟨by decide, key _ (by decide)⟩
def TpS (h g : pm_H) : Prop := Same [2] h g ∧ ∀ k, k < 3 → zI g 2 k = zI h 2 k
theorem TpS.rf {h : pm_H} : TpS h h := ⟨Same.rf, fun _ _ => rfl⟩
theorem TpS.I {h g : pm_H} (t : TpS h g) (i : Nat) (v : Int32) (hi : 3 ≤ i) : TpS h (yI g 2 i v) := ⟨t.1.I 2 _ _ (by decide), fun k hk => by
  rw [zI_yI, if_pos rfl, va_upA, if_neg (by omega)]; exact t.2 k hk⟩
theorem TpS.tr {h g f : pm_H} (p : TpS h g) (q : TpS g f) : TpS h f := ⟨(p.1.tr q.1).sub (by decide), fun k hk => (q.2 k hk).trans (p.2 k hk)⟩
/-- the kind of token that a letter begins; 5: none -/
def kdf (c : Nat) : Nat := if isL c then 1 else if isD c then 2 else if isS c then 5 else if isG c then 3 else 4
theorem kdf1 (c : Nat) : kdf c = 1 ↔ isL c = true := by
  unfold kdf
  cases isL c <;> cases isD c <;> cases isS c <;> cases isG c <;> simp
theorem kdf2 (c : Nat) : kdf c = 2 ↔ isD c = true := by
  by_cases hD : isD c = true
  · have h1 := isD_t.mp hD
    have hL : isL c = false := isL_f.mpr (by omega)
    unfold kdf
    rw [hL, hD]; simp
  · unfold kdf
    cases isL c <;> cases isS c <;> cases isG c <;> simp [hD]
theorem kdf5 (c : Nat) : kdf c = 5 ↔ isS c = true := by
  by_cases hS : isS c = true
  · have h1 := isS_t.mp hS
    have hL : isL c = false := isL_f.mpr (by omega)
    have hD : isD c = false := isD_f.mpr (by omega)
    unfold kdf
    rw [hL, hD, hS]; simp
  · unfold kdf
    cases isL c <;> cases isD c <;> cases isG c <;> simp [hS]
theorem kdf_le (c : Nat) : 1 ≤ kdf c ∧ kdf c ≤ 5 := by
  unfold kdf
  cases isL c <;> cases isD c <;> cases isS c <;> cases isG c <;> simp
section STEP
variable {h : pm_H} {Q : Option Value → pm_H → Prop} {ch : Nat → Nat} {n : Nat}
/-- Tape.kindOf -/
theorem c67 {c : Nat} {x : Int32} (S : SK h) (hx : (c < 128 ∧ x = nI c) ∨ (128 ≤ c ∧ x < 0)) (k0 : Q (some (.int (nI (kdf c)))) h) : WP 67 0 [some (.int x)] [] h Q := by
  rcases hx with ⟨c1, rfl⟩ | ⟨c1, c2⟩
  · have T : isL c = false → isD c = false → WP 67 28 [some (.int (nI c))] [] h Q := by
      intro hL hD
      by_cases hs : isS c = true
      · have e : kdf c = 5 := (kdf5 c).mpr hs
        rw [e] at k0
        rcases isS_t.mp hs with q | q <;> (refine V67s  S ?_ ?_ ?_ ?_ ?_ ?_ ?_ ?_ ?_ <;> simp (disch := omega) only [oi_l, oi_n, z_nI, nIA, nIM, nIS, nIlt, nIle, nIeq, nIC, vpI, Nat.add_sub_cancel, Nat.not_le, Nat.not_lt, Nat.not_lt_zero, Nat.le_refl, not_true_eq_false, not_false_eq_true, false_imp_iff, true_imp_iff, forall_const, implies_true, Nat.reduceEqDiff, Nat.reduceLeDiff, Nat.reduceLT, q] <;> first | omega | exact k0)
      · by_cases hg : isG c = true
        · have e : kdf c = 3 := by
            unfold kdf
            rw [hL, hD, hg]; simp [hs]
          rw [e] at k0
          rcases isG_t.mp hg with q | q | q | q | q | q <;> (refine V67s  S ?_ ?_ ?_ ?_ ?_ ?_ ?_ ?_ ?_ <;> simp (disch := omega) only [oi_l, oi_n, z_nI, nIA, nIM, nIS, nIlt, nIle, nIeq, nIC, vpI, Nat.add_sub_cancel, Nat.not_le, Nat.not_lt, Nat.not_lt_zero, Nat.le_refl, not_true_eq_false, not_false_eq_true, false_imp_iff, true_imp_iff, forall_const, implies_true, Nat.reduceEqDiff, Nat.reduceLeDiff, Nat.reduceLT, q] <;> first | omega | exact k0)
        · have e : kdf c = 4 := by
            unfold kdf
            rw [hL, hD]; simp [hs, hg]
          rw [e] at k0
          have hs' : ¬ (c = 32 ∨ c = 10) := fun q => hs (isS_t.mpr q)
          have hg' : ¬ (c = 40 ∨ c = 41 ∨ c = 59 ∨ c = 44 ∨ c = 43 ∨ c = 58) := fun q => hg (isG_t.mpr q)
          refine V67s  S ?_ ?_ ?_ ?_ ?_ ?_ ?_ ?_ ?_ <;> simp (disch := omega) only [oi_l, oi_n, z_nI, nIA, nIM, nIS, nIlt, nIle, nIeq, nIC, vpI, Nat.add_sub_cancel, Nat.not_le, Nat.not_lt, Nat.not_lt_zero, Nat.le_refl, not_true_eq_false, not_false_eq_true, false_imp_iff, true_imp_iff, forall_const, implies_true, Nat.reduceEqDiff, Nat.reduceLeDiff, Nat.reduceLT, show ¬ c = 10 by omega, show ¬ c = 32 by omega, show ¬ c = 40 by omega, show ¬ c = 41 by omega, show ¬ c = 59 by omega, show ¬ c = 44 by omega, show ¬ c = 43 by omega, show ¬ c = 58 by omega] <;> first | omega | exact k0
    cases hL : isL c with
    | true =>
      have e : kdf c = 1 := (kdf1 c).mpr hL
      have hL' := isL_t.mp hL
      rw [e] at k0
      refine V67  S ?_ ?_ ?_ ?_ ?_ ?_ ?_ <;> simp (disch := omega) only [oi_l, oi_n, z_nI, nIA, nIM, nIS, nIlt, nIle, nIeq, nIC, vpI, Nat.add_sub_cancel, Nat.not_le, Nat.not_lt, Nat.not_lt_zero, Nat.le_refl, not_true_eq_false, not_false_eq_true, false_imp_iff, true_imp_iff, forall_const, implies_true, Nat.reduceEqDiff, Nat.reduceLeDiff, Nat.reduceLT, show ¬ c < 97 by omega, show ¬ 122 < c by omega] <;> first | omega | exact k0
    | false =>
      have hL' := isL_f.mp hL
      cases hD : isD c with
      | true =>
        have e : kdf c = 2 := (kdf2 c).mpr hD
        have hD' := isD_t.mp hD
        rw [e] at k0
        refine V67  S ?_ ?_ ?_ ?_ ?_ ?_ ?_ <;> simp (disch := omega) only [oi_l, oi_n, z_nI, nIA, nIM, nIS, nIlt, nIle, nIeq, nIC, vpI, Nat.add_sub_cancel, Nat.not_le, Nat.not_lt, Nat.not_lt_zero, Nat.le_refl, not_true_eq_false, not_false_eq_true, false_imp_iff, true_imp_iff, forall_const, implies_true, Nat.reduceEqDiff, Nat.reduceLeDiff, Nat.reduceLT, show c < 97 by omega, show ¬ c < 48 by omega, show ¬ 57 < c by omega] <;> first | omega | exact k0
      | false =>
        have hD' := isD_f.mp hD
        have T' := T hL hD
        by_cases a1 : c < 97
        · by_cases a2 : c < 48
          · refine V67  S ?_ ?_ ?_ ?_ ?_ ?_ ?_ <;> simp (disch := omega) only [oi_l, oi_n, z_nI, nIA, nIM, nIS, nIlt, nIle, nIeq, nIC, vpI, Nat.add_sub_cancel, Nat.not_le, Nat.not_lt, Nat.not_lt_zero, Nat.le_refl, not_true_eq_false, not_false_eq_true, false_imp_iff, true_imp_iff, forall_const, implies_true, Nat.reduceEqDiff, Nat.reduceLeDiff, Nat.reduceLT, a1, a2] <;> first | omega | exact T'
          · refine V67  S ?_ ?_ ?_ ?_ ?_ ?_ ?_ <;> simp (disch := omega) only [oi_l, oi_n, z_nI, nIA, nIM, nIS, nIlt, nIle, nIeq, nIC, vpI, Nat.add_sub_cancel, Nat.not_le, Nat.not_lt, Nat.not_lt_zero, Nat.le_refl, not_true_eq_false, not_false_eq_true, false_imp_iff, true_imp_iff, forall_const, implies_true, Nat.reduceEqDiff, Nat.reduceLeDiff, Nat.reduceLT, a1, a2, show 57 < c by omega] <;> first | omega | exact T'
        · refine V67  S ?_ ?_ ?_ ?_ ?_ ?_ ?_ <;> simp (disch := omega) only [oi_l, oi_n, z_nI, nIA, nIM, nIS, nIlt, nIle, nIeq, nIC, vpI, Nat.add_sub_cancel, Nat.not_le, Nat.not_lt, Nat.not_lt_zero, Nat.le_refl, not_true_eq_false, not_false_eq_true, false_imp_iff, true_imp_iff, forall_const, implies_true, Nat.reduceEqDiff, Nat.reduceLeDiff, Nat.reduceLT, a1, show 122 < c by omega, show ¬ c < 48 by omega, show 57 < c by omega] <;> first | omega | exact T'
  · have hL : isL c = false := isL_f.mpr (by omega)
    have hD : isD c = false := isD_f.mpr (by omega)
    have hs : isS c = false := isS_f.mpr (by omega)
    have hg : isG c = false := isG_f.mpr (by omega)
    have e : kdf c = 4 := by
      unfold kdf
      rw [hL, hD, hs, hg]; rfl
    rw [e] at k0
    have T' : WP 67 28 [some (.int x)] [] h Q := by
      refine V67s  S ?_ ?_ ?_ ?_ ?_ ?_ ?_ ?_ ?_ <;> simp (disch := omega) only [oi_l, oi_n, z_nI, nIA, nIM, nIS, nIlt, nIle, nIeq, nIC, vpI, Nat.add_sub_cancel, Nat.not_le, Nat.not_lt, Nat.not_lt_zero, Nat.le_refl, not_true_eq_false, not_false_eq_true, false_imp_iff, true_imp_iff, forall_const, implies_true, Nat.reduceEqDiff, Nat.reduceLeDiff, Nat.reduceLT, ngE c2] <;> first | omega | exact k0
    refine V67  S ?_ ?_ ?_ ?_ ?_ ?_ ?_ <;> simp (disch := omega) only [oi_l, oi_n, z_nI, nIA, nIM, nIS, nIlt, nIle, nIeq, nIC, vpI, Nat.add_sub_cancel, Nat.not_le, Nat.not_lt, Nat.not_lt_zero, Nat.le_refl, not_true_eq_false, not_false_eq_true, false_imp_iff, true_imp_iff, forall_const, implies_true, Nat.reduceEqDiff, Nat.reduceLeDiff, Nat.reduceLT, ngLt c2] <;> first | omega | exact T'
theorem chx (hch : CH h 3 ch n) {i : Nat} (hi : i < n) {g : pm_H} (tg : TpS h g) : (ch i < 128 ∧ zI g 3 i = nI (ch i)) ∨ (128 ≤ ch i ∧ zI g 3 i < 0) := by
  rw [tg.1.1 3 (by decide)]
  rcases hch i hi with q | q
  · exact Or.inl q
  · exact Or.inr ⟨q.1, q.2.2.1⟩
theorem c66S {d : Option Value} (S : SK h) (hn : n ≤ 800) (e2 : zI h 2 2 = nI n) (hch : CH h 3 ch n) : ∀ m i (g : pm_H), i + m = n → TpS h g → zI g 2 3 = nI i → (∀ g', TpS h g' → zI g' 2 3 = nI (sc isS ch n i) → WP 66 40 [some (.ref 2), d] [] g' Q) → WP 66 0 [some (.ref 2), d] [] g Q := by
  intro m
  induction m with
  | zero =>
    intro i g hi tg e3 k
    obtain rfl : i = n := by omega
    have f2 : zI g 2 2 = nI i := by rw [tg.2 2 (by decide)]; exact e2
    rw [sc_n] at k
    have k' := k g tg e3
    refine V66  (tg.1.SK S) ?_ ?_ ?_ <;> simp (disch := omega) only [oi_l, oi_n, z_nI, nIA, nIM, nIS, nIlt, nIle, nIeq, nIC, vpI, Nat.add_sub_cancel, Nat.not_le, Nat.not_lt, Nat.not_lt_zero, Nat.le_refl, not_true_eq_false, not_false_eq_true, false_imp_iff, true_imp_iff, forall_const, implies_true, Nat.reduceEqDiff, Nat.reduceLeDiff, Nat.reduceLT, f2, e3] <;> first | omega | exact k'
  | succ m ih =>
    intro i g hi tg e3 k
    have f2 : zI g 2 2 = nI n := by rw [tg.2 2 (by decide)]; exact e2
    have hin : ¬ n ≤ i := by omega
    have S' := tg.1.SK S
    rw [sc_st (by omega)] at k
    have C' : WP 67 0 [some (.int (zI g 3 i))] [] g (fun v1 h1 => WP 66 23 [some (.ref 2), d] (v1.toList ++ []) h1 Q) := c67 S' (chx hch (by omega) tg) (by
      have kl := kdf_le (ch i)
      cases hs : isS (ch i) with
      | true =>
        rw [if_pos hs] at k
        have I' := ih (i + 1) (yI g 2 3 (nI (i + 1))) (by omega) (tg.I 3 _ (by decide)) (by simp [zI_yI, va_upA]) k
        rw [(kdf5 _).mpr hs]
        refine V66a  S' ?_ ?_ <;> simp (disch := omega) only [oi_l, oi_n, z_nI, nIA, nIM, nIS, nIlt, nIle, nIeq, nIC, vpI, Nat.add_sub_cancel, Nat.not_le, Nat.not_lt, Nat.not_lt_zero, Nat.le_refl, not_true_eq_false, not_false_eq_true, false_imp_iff, true_imp_iff, forall_const, implies_true, Nat.reduceEqDiff, Nat.reduceLeDiff, Nat.reduceLT, e3] <;> first | omega | exact I'
      | false =>
        rw [if_neg (by rw [hs]; decide)] at k
        have k' := k g tg e3
        have k5 : ¬ kdf (ch i) = 5 := fun q => by rw [(kdf5 _).mp q] at hs; cases hs
        refine V66a  S' ?_ ?_ <;> simp (disch := omega) only [oi_l, oi_n, z_nI, nIA, nIM, nIS, nIlt, nIle, nIeq, nIC, vpI, Nat.add_sub_cancel, Nat.not_le, Nat.not_lt, Nat.not_lt_zero, Nat.le_refl, not_true_eq_false, not_false_eq_true, false_imp_iff, true_imp_iff, forall_const, implies_true, Nat.reduceEqDiff, Nat.reduceLeDiff, Nat.reduceLT, k5] <;> first | omega | exact k')
    refine V66  S' ?_ ?_ ?_ <;> simp (disch := omega) only [oi_l, oi_n, z_nI, nIA, nIM, nIS, nIlt, nIle, nIeq, nIC, vpI, Nat.add_sub_cancel, Nat.not_le, Nat.not_lt, Nat.not_lt_zero, Nat.le_refl, not_true_eq_false, not_false_eq_true, false_imp_iff, true_imp_iff, forall_const, implies_true, Nat.reduceEqDiff, Nat.reduceLeDiff, Nat.reduceLT, f2, e3, hin] <;> first | omega | exact C'
theorem c66W {p : Nat → Bool} {kd s : Nat} (hp : ∀ c, kdf c = kd ↔ p c = true) (hkd : kd ≤ 5) (S : SK h) (hn : n ≤ 800) (e2 : zI h 2 2 = nI n) (hch : CH h 3 ch n) : ∀ m i (g : pm_H), i + m = n → TpS h g → zI g 2 3 = nI i → zI g 2 4 = nI kd → zI g 2 5 = nI s → (∀ g', TpS h g' → zI g' 2 3 = nI (sc p ch n i) → zI g' 2 4 = nI kd → zI g' 2 5 = nI s → WP 66 160 [some (.ref 2), some (.int (nI 1))] [] g' Q) → WP 66 113 [some (.ref 2), some (.int (nI 1))] [] g Q := by
  intro m
  induction m with
  | zero =>
    intro i g hi tg e3 e4 e5 k
    obtain rfl : i = n := by omega
    have f2 : zI g 2 2 = nI i := by rw [tg.2 2 (by decide)]; exact e2
    rw [sc_n] at k
    have k' := k g tg e3 e4 e5
    refine V66L  (tg.1.SK S) ?_ ?_ ?_ ?_ <;> simp (disch := omega) only [oi_l, oi_n, z_nI, nIA, nIM, nIS, nIlt, nIle, nIeq, nIC, vpI, Nat.add_sub_cancel, Nat.not_le, Nat.not_lt, Nat.not_lt_zero, Nat.le_refl, not_true_eq_false, not_false_eq_true, false_imp_iff, true_imp_iff, forall_const, implies_true, Nat.reduceEqDiff, Nat.reduceLeDiff, Nat.reduceLT, f2, e3] <;> first | omega | exact k'
  | succ m ih =>
    intro i g hi tg e3 e4 e5 k
    have f2 : zI g 2 2 = nI n := by rw [tg.2 2 (by decide)]; exact e2
    have hin : ¬ n ≤ i := by omega
    have S' := tg.1.SK S
    rw [sc_st (by omega)] at k
    have C' : WP 67 0 [some (.int (zI g 3 i))] [] g (fun v1 h1 => WP 66 140 [some (.ref 2), some (.int (nI 1))] (v1.toList ++ []) h1 Q) := c67 S' (chx hch (by omega) tg) (by
      have kl := kdf_le (ch i)
      cases hs : p (ch i) with
      | true =>
        rw [if_pos hs] at k
        have I' := ih (i + 1) (yI g 2 3 (nI (i + 1))) (by omega) (tg.I 3 _ (by decide)) (by simp [zI_yI, va_upA]) (by simp [zI_yI, va_upA, e4]) (by simp [zI_yI, va_upA, e5]) k
        rw [(hp _).mpr hs]
        refine V66m  S' ?_ ?_ <;> simp (disch := omega) only [oi_l, oi_n, z_nI, nIA, nIM, nIS, nIlt, nIle, nIeq, nIC, vpI, Nat.add_sub_cancel, Nat.not_le, Nat.not_lt, Nat.not_lt_zero, Nat.le_refl, not_true_eq_false, not_false_eq_true, false_imp_iff, true_imp_iff, forall_const, implies_true, Nat.reduceEqDiff, Nat.reduceLeDiff, Nat.reduceLT, e3, e4] <;> first | omega | exact I'
      | false =>
        rw [if_neg (by rw [hs]; decide)] at k
        have k' := k g tg e3 e4 e5
        have k5 : ¬ kdf (ch i) = kd := fun q => by rw [(hp _).mp q] at hs; cases hs
        refine V66m  S' ?_ ?_ <;> simp (disch := omega) only [oi_l, oi_n, z_nI, nIA, nIM, nIS, nIlt, nIle, nIeq, nIC, vpI, Nat.add_sub_cancel, Nat.not_le, Nat.not_lt, Nat.not_lt_zero, Nat.le_refl, not_true_eq_false, not_false_eq_true, false_imp_iff, true_imp_iff, forall_const, implies_true, Nat.reduceEqDiff, Nat.reduceLeDiff, Nat.reduceLT, e4, k5] <;> first | omega | exact k')
    refine V66L  S' ?_ ?_ ?_ ?_ <;> simp (disch := omega) only [oi_l, oi_n, z_nI, nIA, nIM, nIS, nIlt, nIle, nIeq, nIC, vpI, Nat.add_sub_cancel, Nat.not_le, Nat.not_lt, Nat.not_lt_zero, Nat.le_refl, not_true_eq_false, not_false_eq_true, false_imp_iff, true_imp_iff, forall_const, implies_true, Nat.reduceEqDiff, Nat.reduceLeDiff, Nat.reduceLT, f2, e3, hin] <;> first | omega | exact C'
theorem c68 {s e w kd : Nat} (S : SK h) (hn : n ≤ 800) (hkd : kd ≤ 5) (hse : s ≤ e) (hen : e ≤ n) (hw : w < 3) (hch : CH h 3 ch n) (hl : kd = 1 → ∀ j, s ≤ j → j < e → ch j < 128) (e3 : zI h 2 3 = nI e) (e4 : zI h 2 4 = nI kd) (e5 : zI h 2 5 = nI s) (k0 : Q (some (.int (if kd = 1 ∧ spl ch s e (pm_str w) = true then nI 1 else nI 0))) h) : WP 68 0 [some (.ref 2), some (.retAddr w), none] [] h Q := by
  obtain ⟨sb1, sb2⟩ := str_b w hw
  by_cases k1 : kd = 1
  · have hl' := hl k1
    rw [k1] at e4
    by_cases hlen : e - s = (pm_str w).length
    · have L : ∀ m k, k + m = (pm_str w).length → (∀ j, j < k → ch (s + j) = (pm_str w).getD j 0) → WP 68 28 [some (.ref 2), some (.retAddr w), some (.int (nI k))] [] h Q := by
        intro m
        induction m with
        | zero =>
          intro k hk f
          obtain rfl : k = (pm_str w).length := by omega
          rw [if_pos ⟨k1, spl_t.mpr ⟨hlen, f⟩⟩] at k0
          refine V68L  S ?_ ?_ ?_ ?_ ?_ ?_ <;> simp (disch := omega) only [oi_l, oi_n, z_nI, nIA, nIM, nIS, nIlt, nIle, nIeq, nIC, vpI, Nat.add_sub_cancel, Nat.not_le, Nat.not_lt, Nat.not_lt_zero, Nat.le_refl, not_true_eq_false, not_false_eq_true, false_imp_iff, true_imp_iff, forall_const, implies_true, Nat.reduceEqDiff, Nat.reduceLeDiff, Nat.reduceLT, hw] <;> first | omega | exact k0
        | succ m ih =>
          intro k hk f
          have c8 := hl' (s + k) (by omega) (by omega)
          have cv : zI h 3 (s + k) = nI (ch (s + k)) := by
            rcases hch (s + k) (by omega) with ⟨-, c2⟩ | ⟨c1, -⟩
            · exact c2
            · omega
          have sk := sb2 k
          by_cases ec : ch (s + k) = (pm_str w).getD k 0
          · have I' := ih (k + 1) (by omega) (fun j hj => by
              by_cases e' : j = k
              · rw [e']; exact ec
              · exact f j (by omega))
            refine V68L  S ?_ ?_ ?_ ?_ ?_ ?_ <;> simp (disch := omega) only [oi_l, oi_n, z_nI, nIA, nIM, nIS, nIlt, nIle, nIeq, nIC, vpI, Nat.add_sub_cancel, Nat.not_le, Nat.not_lt, Nat.not_lt_zero, Nat.le_refl, not_true_eq_false, not_false_eq_true, false_imp_iff, true_imp_iff, forall_const, implies_true, Nat.reduceEqDiff, Nat.reduceLeDiff, Nat.reduceLT, hw, e5, cv, eq_true ec, show ¬ (pm_str w).length ≤ k by omega, true_and] <;> first | omega | exact I'
          · have ns : spl ch s e (pm_str w) = false := spl_f.mpr (fun q => ec (q.2 k (by omega)))
            rw [if_neg (fun q => by rw [ns] at q; cases q.2)] at k0
            refine V68L  S ?_ ?_ ?_ ?_ ?_ ?_ <;> simp (disch := omega) only [oi_l, oi_n, z_nI, nIA, nIM, nIS, nIlt, nIle, nIeq, nIC, vpI, Nat.add_sub_cancel, Nat.not_le, Nat.not_lt, Nat.not_lt_zero, Nat.le_refl, not_true_eq_false, not_false_eq_true, false_imp_iff, true_imp_iff, forall_const, implies_true, Nat.reduceEqDiff, Nat.reduceLeDiff, Nat.reduceLT, hw, e5, cv, ec, show ¬ (pm_str w).length ≤ k by omega, true_and] <;> first | omega | exact k0
      have L' := L _ 0 (Nat.zero_add _) (fun j hj => absurd hj (Nat.not_lt_zero _))
      refine V68  S ?_ ?_ ?_ ?_ <;> simp (disch := omega) only [oi_l, oi_n, z_nI, nIA, nIM, nIS, nIlt, nIle, nIeq, nIC, vpI, Nat.add_sub_cancel, Nat.not_le, Nat.not_lt, Nat.not_lt_zero, Nat.le_refl, not_true_eq_false, not_false_eq_true, false_imp_iff, true_imp_iff, forall_const, implies_true, Nat.reduceEqDiff, Nat.reduceLeDiff, Nat.reduceLT, hw, e3, e4, e5, eq_true hlen] <;> first | omega | exact L'
    · have ns : spl ch s e (pm_str w) = false := spl_f.mpr (fun q => hlen q.1)
      rw [if_neg (fun q => by rw [ns] at q; cases q.2)] at k0
      refine V68  S ?_ ?_ ?_ ?_ <;> simp (disch := omega) only [oi_l, oi_n, z_nI, nIA, nIM, nIS, nIlt, nIle, nIeq, nIC, vpI, Nat.add_sub_cancel, Nat.not_le, Nat.not_lt, Nat.not_lt_zero, Nat.le_refl, not_true_eq_false, not_false_eq_true, false_imp_iff, true_imp_iff, forall_const, implies_true, Nat.reduceEqDiff, Nat.reduceLeDiff, Nat.reduceLT, hw, e3, e4, e5, hlen] <;> first | omega | exact k0
  · rw [if_neg (fun q => k1 q.1)] at k0
    refine V68  S ?_ ?_ ?_ ?_ <;> simp (disch := omega) only [oi_l, oi_n, z_nI, nIA, nIM, nIS, nIlt, nIle, nIeq, nIC, vpI, Nat.add_sub_cancel, Nat.not_le, Nat.not_lt, Nat.not_lt_zero, Nat.le_refl, not_true_eq_false, not_false_eq_true, false_imp_iff, true_imp_iff, forall_const, implies_true, Nat.reduceEqDiff, Nat.reduceLeDiff, Nat.reduceLT, hw, e3, e4, e5, k1] <;> first | omega | exact k0
theorem nv_b {s : Nat} : ∀ k, k ≤ 4 → (∀ j, j < k → 48 ≤ ch (s + j) ∧ ch (s + j) ≤ 57) → nv ch s k < 10 ^ k
  | 0, _, _ => Nat.lt_succ_self 0
  | k + 1, hk, h => by
    have := nv_b k (by omega) (fun j hj => h j (by omega))
    have := h k (by omega)
    rw [nv, Nat.pow_succ]
    omega
theorem p10 {k : Nat} (h : k ≤ 4) : 10 ^ k ≤ 10000 := Nat.pow_le_pow_right (n := 10) (by decide) h
theorem c69 {s e : Nat} (S : SK h) (hn : n ≤ 800) (hse : s ≤ e) (hen : e ≤ n) (h4 : e - s ≤ 4) (hch : CH h 3 ch n) (hl : ∀ j, s ≤ j → j < e → 48 ≤ ch j ∧ ch j ≤ 57) (e3 : zI h 2 3 = nI e) (e4 : zI h 2 4 = nI 2) (e5 : zI h 2 5 = nI s) (k0 : Q (some (.int (nI (nv ch s (e - s))))) h) : WP 69 0 [some (.ref 2), none, none] [] h Q := by
  have L : ∀ m k v, k + m = e → s ≤ k → v = nv ch s (k - s) → WP 69 7 [some (.ref 2), some (.int (nI v)), some (.int (nI k))] [] h Q := by
    intro m
    induction m with
    | zero =>
      intro k v hk hs hv
      obtain rfl : k = e := by omega
      rw [← hv] at k0
      refine V69L  S ?_ ?_ ?_ ?_ <;> simp (disch := omega) only [oi_l, oi_n, z_nI, nIA, nIM, nIS, nIlt, nIle, nIeq, nIC, vpI, Nat.add_sub_cancel, Nat.not_le, Nat.not_lt, Nat.not_lt_zero, Nat.le_refl, not_true_eq_false, not_false_eq_true, false_imp_iff, true_imp_iff, forall_const, implies_true, Nat.reduceEqDiff, Nat.reduceLeDiff, Nat.reduceLT, e3] <;> first | omega | exact k0
    | succ m ih =>
      intro k v hk hs hv
      have c8 := hl k (by omega) (by omega)
      have cv : zI h 3 k = nI (ch k) := by
        rcases hch k (by omega) with ⟨-, c2⟩ | ⟨c1, -⟩
        · exact c2
        · omega
      have I' := ih (k + 1) (v * 10 + (ch k - 48)) (by omega) (by omega) (by rw [show k + 1 - s = (k - s) + 1 by omega, nv, ← hv, show s + (k - s) = k by omega])
      refine V69L  S ?_ ?_ ?_ ?_ <;> simp (disch := omega) only [oi_l, oi_n, z_nI, nIA, nIM, nIS, nIlt, nIle, nIeq, nIC, vpI, Nat.add_sub_cancel, Nat.not_le, Nat.not_lt, Nat.not_lt_zero, Nat.le_refl, not_true_eq_false, not_false_eq_true, false_imp_iff, true_imp_iff, forall_const, implies_true, Nat.reduceEqDiff, Nat.reduceLeDiff, Nat.reduceLT, e3, e4, cv, show ¬ e ≤ k by omega] <;> first | omega | exact I'
  have L' := L (e - s) s 0 (by omega) (Nat.le_refl _) (by rw [Nat.sub_self]; rfl)
  refine V69  S ?_ <;> simp (disch := omega) only [oi_l, oi_n, z_nI, nIA, nIM, nIS, nIlt, nIle, nIeq, nIC, vpI, Nat.add_sub_cancel, Nat.not_le, Nat.not_lt, Nat.not_lt_zero, Nat.le_refl, not_true_eq_false, not_false_eq_true, false_imp_iff, true_imp_iff, forall_const, implies_true, Nat.reduceEqDiff, Nat.reduceLeDiff, Nat.reduceLT, e5] <;> first | omega | exact L'
/-- Tape.step -/
theorem c66 {i : Nat} {d : Option Value} (S : SK h) (hn : n ≤ 800) (hi : i ≤ n) (e2 : zI h 2 2 = nI n) (e3 : zI h 2 3 = nI i) (hch : CH h 3 ch n) (k0 : ∀ g, TpS h g → zI g 2 3 = nI (tnx ch n i) → zI g 2 4 = nI (tkd ch n i) → zI g 2 5 = nI (tpl ch n i) → CH g 3 ch n → Q none g) : WP 66 0 [some (.ref 2), d] [] h Q := by
  refine c66S S hn e2 hch (n - i) i h (by omega) TpS.rf e3 (fun g tg f3 => ?_)
  have S' := tg.1.SK S
  have f2 : zI g 2 2 = nI n := by rw [tg.2 2 (by decide)]; exact e2
  have sb := sc_b (p := isS) (ch := ch) hi
  have epl : sc isS ch n i = tpl ch n i := rfl
  have hsS : sc isS ch n i < n → isS (ch (sc isS ch n i)) = false := fun q => scf_out isS ch (n - i) i (by unfold sc at q; omega)
  rw [epl] at f3 sb hsS
  obtain ⟨s, es⟩ : ∃ s, s = tpl ch n i := ⟨_, rfl⟩
  have tk : tkd ch n i = if n ≤ s then 0 else if isL (ch s) then 1 else if isD (ch s) then (if sc isD ch n s - s ≤ 4 then 2 else 4) else if isG (ch s) then 3 else 4 := by rw [es]; rfl
  have tn : tnx ch n i = if n ≤ s then s else if isL (ch s) then sc isL ch n s else if isD (ch s) then sc isD ch n s else s + 1 := by rw [es]; rfl
  rw [← es] at f3 sb k0 hsS
  have kk : ∀ g, TpS h g → zI g 2 3 = nI (tnx ch n i) → zI g 2 4 = nI (tkd ch n i) → zI g 2 5 = nI s → Q none g := fun g' t' a b c => k0 g' t' a b c (fun j hj => by rw [t'.1.1 3 (by decide)]; exact hch j hj)
  by_cases hend : n ≤ s
  · rw [if_pos hend] at tk tn
    have F' := kk (yI (yI g 2 5 (nI s)) 2 4 (nI 0)) ((tg.I 5 _ (by decide)).I 4 _ (by decide)) (by rw [tn]; simp [zI_yI, va_upA, f3]) (by rw [tk]; simp [zI_yI, va_upA]) (by simp [zI_yI, va_upA])
    refine V66b  S' ?_ ?_ ?_ <;> simp (disch := omega) only [oi_l, oi_n, z_nI, nIA, nIM, nIS, nIlt, nIle, nIeq, nIC, vpI, Nat.add_sub_cancel, Nat.not_le, Nat.not_lt, Nat.not_lt_zero, Nat.le_refl, not_true_eq_false, not_false_eq_true, false_imp_iff, true_imp_iff, forall_const, implies_true, Nat.reduceEqDiff, Nat.reduceLeDiff, Nat.reduceLT, f2, f3, show ¬ s < n by omega] <;> first | omega | exact F'
  · rw [if_neg hend] at tk tn
    have hs : s < n := by omega
    have hS := hsS hs
    have t5 : TpS h (yI g 2 5 (nI s)) := tg.I 5 _ (by decide)
    have S5 := t5.1.SK S
    have q3 : zI (yI g 2 5 (nI s)) 2 3 = nI s := by simp [zI_yI, va_upA, f3]
    have q5 : zI (yI g 2 5 (nI s)) 2 5 = nI s := by simp [zI_yI, va_upA]
    have cx := chx hch hs t5
    have cx' : (ch s < 128 ∧ zI g 3 s = nI (ch s)) ∨ (128 ≤ ch s ∧ zI g 3 s < 0) := chx hch hs tg
    -- behind the first letter
    have t7 : ∀ kd, TpS h (yI (yI (yI g 2 5 (nI s)) 2 4 (nI kd)) 2 3 (nI (s + 1))) := fun kd => (t5.I 4 _ (by decide)).I 3 _ (by decide)
    have r3 : ∀ kd, zI (yI (yI (yI g 2 5 (nI s)) 2 4 (nI kd)) 2 3 (nI (s + 1))) 2 3 = nI (s + 1) := fun kd => by simp [zI_yI, va_upA]
    have r4 : ∀ kd, zI (yI (yI (yI g 2 5 (nI s)) 2 4 (nI kd)) 2 3 (nI (s + 1))) 2 4 = nI kd := fun kd => by simp [zI_yI, va_upA]
    have r5 : ∀ kd, zI (yI (yI (yI g 2 5 (nI s)) 2 4 (nI kd)) 2 3 (nI (s + 1))) 2 5 = nI s := fun kd => by simp [zI_yI, va_upA]
    have C' : WP 67 0 [some (.int (zI g 3 s))] [] (yI g 2 5 (nI s)) (fun v1 h1 => WP 66 78 [some (.ref 2), d] (v1.toList ++ [.ref 2]) h1 Q) := c67 S5 cx' (by
      have kl := kdf_le (ch s)
      cases hL : isL (ch s) with
      | true =>
        rw [(kdf1 _).mpr hL]
        have W' := c66W (Q := Q) (p := isL) (kd := 1) (s := s) kdf1 (by decide) S hn e2 hch (n - (s + 1)) (s + 1) _ (by omega) (t7 1) (r3 1) (r4 1) (r5 1) (fun g' t' a3 a4 a5 => by
          have es' : sc isL ch n (s + 1) = sc isL ch n s := by rw [sc_st hs, if_pos hL]
          rw [es'] at a3
          have F' := kk g' t' (by rw [tn, if_pos hL]; exact a3) (by rw [tk, if_pos hL]; exact a4) a5
          refine V66e  (t'.1.SK S) ?_ ?_ ?_ <;> simp (disch := omega) only [oi_l, oi_n, z_nI, nIA, nIM, nIS, nIlt, nIle, nIeq, nIC, vpI, Nat.add_sub_cancel, Nat.not_le, Nat.not_lt, Nat.not_lt_zero, Nat.le_refl, not_true_eq_false, not_false_eq_true, false_imp_iff, true_imp_iff, forall_const, implies_true, Nat.reduceEqDiff, Nat.reduceLeDiff, Nat.reduceLT, a3, a4, a5] <;> first | omega | exact F')
        refine V66c  S5 ?_ ?_ ?_ <;> simp (disch := omega) only [oi_l, oi_n, z_nI, nIA, nIM, nIS, nIlt, nIle, nIeq, nIC, vpI, Nat.add_sub_cancel, Nat.not_le, Nat.not_lt, Nat.not_lt_zero, Nat.le_refl, not_true_eq_false, not_false_eq_true, false_imp_iff, true_imp_iff, forall_const, implies_true, Nat.reduceEqDiff, Nat.reduceLeDiff, Nat.reduceLT, q3] <;> first | omega | exact W'
      | false =>
        cases hD : isD (ch s) with
        | true =>
          rw [(kdf2 _).mpr hD]
          rw [hL, hD] at tk tn
          simp only [Bool.false_eq_true, if_false, if_true] at tk tn
          have W' := c66W (Q := Q) (p := isD) (kd := 2) (s := s) kdf2 (by decide) S hn e2 hch (n - (s + 1)) (s + 1) _ (by omega) (t7 2) (r3 2) (r4 2) (r5 2) (fun g' t' a3 a4 a5 => by
            have sb2 := sc_b (p := isD) (ch := ch) (show s ≤ n by omega)
            have es' : sc isD ch n (s + 1) = sc isD ch n s := by rw [sc_st hs, if_pos hD]
            rw [es'] at a3
            by_cases l4 : sc isD ch n s - s ≤ 4
            · rw [if_pos l4] at tk
              have F' := kk g' t' (by rw [tn]; exact a3) (by rw [tk]; exact a4) a5
              refine V66e  (t'.1.SK S) ?_ ?_ ?_ <;> simp (disch := omega) only [oi_l, oi_n, z_nI, nIA, nIM, nIS, nIlt, nIle, nIeq, nIC, vpI, Nat.add_sub_cancel, Nat.not_le, Nat.not_lt, Nat.not_lt_zero, Nat.le_refl, not_true_eq_false, not_false_eq_true, false_imp_iff, true_imp_iff, forall_const, implies_true, Nat.reduceEqDiff, Nat.reduceLeDiff, Nat.reduceLT, a3, a4, a5, eq_true l4] <;> first | omega | exact F'
            · rw [if_neg l4] at tk
              have F' := kk (yI g' 2 4 (nI 4)) (t'.I 4 _ (by decide)) (by rw [tn]; simp [zI_yI, va_upA, a3]) (by rw [tk]; simp [zI_yI, va_upA]) (by simp [zI_yI, va_upA, a5])
              refine V66e  (t'.1.SK S) ?_ ?_ ?_ <;> simp (disch := omega) only [oi_l, oi_n, z_nI, nIA, nIM, nIS, nIlt, nIle, nIeq, nIC, vpI, Nat.add_sub_cancel, Nat.not_le, Nat.not_lt, Nat.not_lt_zero, Nat.le_refl, not_true_eq_false, not_false_eq_true, false_imp_iff, true_imp_iff, forall_const, implies_true, Nat.reduceEqDiff, Nat.reduceLeDiff, Nat.reduceLT, a3, a4, a5, l4] <;> first | omega | exact F')
          refine V66c  S5 ?_ ?_ ?_ <;> simp (disch := omega) only [oi_l, oi_n, z_nI, nIA, nIM, nIS, nIlt, nIle, nIeq, nIC, vpI, Nat.add_sub_cancel, Nat.not_le, Nat.not_lt, Nat.not_lt_zero, Nat.le_refl, not_true_eq_false, not_false_eq_true, false_imp_iff, true_imp_iff, forall_const, implies_true, Nat.reduceEqDiff, Nat.reduceLeDiff, Nat.reduceLT, q3] <;> first | omega | exact W'
        | false =>
          rw [hL, hD] at tk tn
          simp only [Bool.false_eq_true, if_false] at tk tn
          have ek : kdf (ch s) = tkd ch n i := by
            unfold kdf
            rw [tk, hL, hD, hS]; simp
          have k34 : tkd ch n i = 3 ∨ tkd ch n i = 4 := by
            rw [tk]
            split <;> simp
          rw [ek]
          have F' := kk _ (t7 (tkd ch n i)) (by rw [tn]; exact r3 _) (r4 _) (r5 _)
          have W' : WP 66 160 [some (.ref 2), some (.int (nI 0))] [] (yI (yI (yI g 2 5 (nI s)) 2 4 (nI (tkd ch n i))) 2 3 (nI (s + 1))) Q := by
            refine V66e  ((t7 (tkd ch n i)).1.SK S) ?_ ?_ ?_ <;> simp (disch := omega) only [oi_l, oi_n, z_nI, nIA, nIM, nIS, nIlt, nIle, nIeq, nIC, vpI, Nat.add_sub_cancel, Nat.not_le, Nat.not_lt, Nat.not_lt_zero, Nat.le_refl, not_true_eq_false, not_false_eq_true, false_imp_iff, true_imp_iff, forall_const, implies_true, Nat.reduceEqDiff, Nat.reduceLeDiff, Nat.reduceLT, r3, r4, r5, show ¬ tkd ch n i = 2 by omega] <;> first | omega | exact F'
          have X' : WP 66 113 [some (.ref 2), some (.int (nI 0))] [] (yI (yI (yI g 2 5 (nI s)) 2 4 (nI (tkd ch n i))) 2 3 (nI (s + 1))) Q := by
            refine V66L  ((t7 (tkd ch n i)).1.SK S) ?_ ?_ ?_ ?_ <;> simp (disch := omega) only [oi_l, oi_n, z_nI, nIA, nIM, nIS, nIlt, nIle, nIeq, nIC, vpI, Nat.add_sub_cancel, Nat.not_le, Nat.not_lt, Nat.not_lt_zero, Nat.le_refl, not_true_eq_false, not_false_eq_true, false_imp_iff, true_imp_iff, forall_const, implies_true, Nat.reduceEqDiff, Nat.reduceLeDiff, Nat.reduceLT] <;> first | omega | exact W'
          refine V66c  S5 ?_ ?_ ?_ <;> simp (disch := omega) only [oi_l, oi_n, z_nI, nIA, nIM, nIS, nIlt, nIle, nIeq, nIC, vpI, Nat.add_sub_cancel, Nat.not_le, Nat.not_lt, Nat.not_lt_zero, Nat.le_refl, not_true_eq_false, not_false_eq_true, false_imp_iff, true_imp_iff, forall_const, implies_true, Nat.reduceEqDiff, Nat.reduceLeDiff, Nat.reduceLT, q3, show ¬ tkd ch n i = 1 by omega, show ¬ tkd ch n i = 2 by omega] <;> first | omega | exact X')
    refine V66b  S' ?_ ?_ ?_ <;> simp (disch := omega) only [oi_l, oi_n, z_nI, nIA, nIM, nIS, nIlt, nIle, nIeq, nIC, vpI, Nat.add_sub_cancel, Nat.not_le, Nat.not_lt, Nat.not_lt_zero, Nat.le_refl, not_true_eq_false, not_false_eq_true, false_imp_iff, true_imp_iff, forall_const, implies_true, Nat.reduceEqDiff, Nat.reduceLeDiff, Nat.reduceLT, f2, f3, hs] <;> first | omega | exact C'
end STEP

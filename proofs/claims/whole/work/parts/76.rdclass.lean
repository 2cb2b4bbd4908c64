/-! reading pieces: what both do -/
/-- a fault (kind, place), or what was read (place behind, picks) -/
abbrev PRes : Type := (Nat × Nat) ⊕ (Nat × List Nat)
section PCS
variable (ch : Nat → Nat) (n : Nat)
def cs1 (i : Nat) : Nat := if tkd ch n i = 4 then 1 else 2
def pcs : Nat → Nat → List Nat → Stk → Bool → PRes
  | 0, _, _, _, _ => .inl (0, 0)
  | f + 1, i, l, st, has =>
    if tkd ch n i = 1 ∧ tvl ch n i < 8 then
      (if ¬ tkd ch n (tnx ch n i) = 2 then .inl (cs1 ch n (tnx ch n i), tpl ch n (tnx ch n i))
       else if tvl ch n (tnx ch n i) < 1 ∨ 200 < tvl ch n (tnx ch n i) then .inl (4, tpl ch n (tnx ch n i))
       else if 400 < l.length + tvl ch n (tnx ch n i) then .inl (7, tpl ch n i)
       else pcs f (tnx ch n (tnx ch n i)) (addL l (tvl ch n (tnx ch n i)) (tvl ch n i)) st true)
    else if tkd ch n i = 2 ∨ (tkd ch n i = 1 ∧ tvl ch n i = 28) then
      (if tkd ch n i = 2 ∧ (tvl ch n i < 2 ∨ 50 < tvl ch n i) then .inl (4, tpl ch n i)
       else if ¬ (tkd ch n (tnx ch n i) = 3 ∧ tvl ch n (tnx ch n i) = 40) then .inl (cs1 ch n (tnx ch n i), tpl ch n (tnx ch n i))
       else if 8 ≤ st.length then .inl (3, tpl ch n (tnx ch n i))
       else pcs f (tnx ch n (tnx ch n i)) l ((l.length, if tkd ch n i = 2 then tvl ch n i else 0) :: st) false)
    else match st with
      | (a, t) :: st' => if (tkd ch n i = 3 ∧ tvl ch n i = 41) ∧ has = true then
            (if t ≠ 0 ∧ 400 < a + (l.length - a) * t then .inl (7, tpl ch n i) else pcs f (tnx ch n i) (clsL l a t) st' true)
          else .inl (cs1 ch n i, tpl ch n i)
      | [] => if (tkd ch n i = 3 ∧ tvl ch n i = 59) ∧ has = true then .inr (tnx ch n i, l) else .inl (cs1 ch n i, tpl ch n i)
end PCS
section TKF
variable {ch : Nat → Nat} {n i : Nat}
theorem tpl_b (hi : i ≤ n) : i ≤ tpl ch n i ∧ tpl ch n i ≤ n := sc_b hi
theorem tnx_b (hi : i ≤ n) : tpl ch n i ≤ tnx ch n i ∧ tnx ch n i ≤ n ∧ (tkd ch n i ≠ 0 → tpl ch n i < tnx ch n i) := by
  have pb := tpl_b (ch := ch) hi
  unfold tnx
  by_cases h1 : n ≤ tpl ch n i
  · rw [if_pos h1]
    refine ⟨Nat.le_refl _, pb.2, fun q => absurd ?_ q⟩
    unfold tkd
    rw [if_pos h1]
  · rw [if_neg h1]
    by_cases h2 : isL (ch (tpl ch n i)) = true
    · rw [if_pos h2]
      have := sc_b (p := isL) (ch := ch) (show tpl ch n i + 1 ≤ n by omega)
      rw [sc_st (by omega), if_pos h2]
      omega
    · rw [if_neg h2]
      by_cases h3 : isD (ch (tpl ch n i)) = true
      · rw [if_pos h3]
        have := sc_b (p := isD) (ch := ch) (show tpl ch n i + 1 ≤ n by omega)
        rw [sc_st (by omega), if_pos h3]
        omega
      · rw [if_neg h3]; omega
theorem tk2 (hn : n ≤ 800) (h : tkd ch n i = 2) : tvl ch n i < 10000 := by
  unfold tkd at h
  split at h
  · omega
  · rename_i h1
    split at h
    · omega
    · rename_i h2
      split at h
      · rename_i h3
        split at h
        · rename_i h4
          have e : tnx ch n i = sc isD ch n (tpl ch n i) := by unfold tnx; rw [if_neg h1, if_neg h2, if_pos h3]
          have ev : tvl ch n i = nv ch (tpl ch n i) (sc isD ch n (tpl ch n i) - tpl ch n i) := by unfold tvl; rw [if_neg h2, if_pos h3, e]
          have b := nv_b (ch := ch) (s := tpl ch n i) _ h4 (fun j hj => isD_t.mp (scf_in isD ch (n - tpl ch n i) (tpl ch n i) (tpl ch n i + j) (by omega) (by unfold sc at hj; omega)))
          have := p10 h4
          omega
        · omega
      · split at h <;> omega
theorem tv_lt (hn : n ≤ 800) (h : tkd ch n i = 1 ∨ tkd ch n i = 2 ∨ tkd ch n i = 3) : tvl ch n i < 10000 := by
  rcases h with h | h | h
  · have := (tk1w h).2.2.1; omega
  · exact tk2 hn h
  · have := tv_b h; omega
end TKF
/-- what reading leaves of the class's cells -/
def CR (h g : pm_H) : Prop := Same [1, 2, 4, 5, 6, 7] h g ∧ ∀ k, k < 3 → zI g 2 k = zI h 2 k
theorem CR.rf {h : pm_H} : CR h h := ⟨Same.rf, fun _ _ => rfl⟩
theorem CR.tr {h g f : pm_H} (p : CR h g) (q : CR g f) : CR h f := ⟨(p.1.tr q.1).sub (by decide), fun k hk => (q.2 k hk).trans (p.2 k hk)⟩
theorem CR.T {h g : pm_H} (t : TpS h g) : CR h g := ⟨t.1.sub (by decide), t.2⟩
theorem CR.W {L : List Nat} {h g : pm_H} (t : Same L h g) (hL : ∀ a ∈ L, a = 4 ∨ a = 5 ∨ a = 6 ∨ a = 7) : CR h g := ⟨t.sub (fun a ha => by rcases hL a ha with e | e | e | e <;> rw [e] <;> decide), fun k _ => by rw [t.1 2 (fun q => by rcases hL 2 q with e | e | e | e <;> omega)]⟩
theorem CR.F {h g : pm_H} (c : CR h g) (i : Nat) (v : Int32) : CR h (yI g 1 i v) := ⟨c.1.I 1 _ _ (by decide), fun k hk => by rw [zI_yI, if_neg (by decide)]; exact c.2 k hk⟩
def CF (h g : pm_H) : Prop := Same [1, 2] h g ∧ ∀ k, k < 3 → zI g 2 k = zI h 2 k
theorem CF.T {h g : pm_H} (t : TpS h g) : CF h g := ⟨t.1.sub (by decide), t.2⟩
theorem CF.F {h g : pm_H} (c : CF h g) (i : Nat) (v : Int32) : CF h (yI g 1 i v) := ⟨c.1.I 1 _ _ (by decide), fun k hk => by rw [zI_yI, if_neg (by decide)]; exact c.2 k hk⟩
theorem CF.C {h g : pm_H} (c : CF h g) : CR h g := ⟨c.1.sub (by decide), c.2⟩
theorem V42 {h : pm_H} {Q : Option Value → pm_H → Prop} {d3 : Option Value} {lo : Nat} {hi : Nat} (S : SK h) (k1 : WP 66 0 [some (.ref 2), none] [] h (fun v1 h1 => WP 42 7 [some (.ref 1), some (.int (nI lo)), some (.int (nI hi)), d3] (v1.toList ++ []) h1 Q)) : WP 42 0 [some (.ref 1), some (.int (nI lo)), some (.int (nI hi)), d3] [] h Q :=
  B42_0 (S.T 1) (S.R 1 0) (S.T 2) k1
theorem V42r {h : pm_H} {Q : Option Value → pm_H → Prop} {d3 : Option Value} {lo : Nat} {hi : Nat} (S : SK h) (k2 : ((zI h 2 4) = (Int32.ofInt 2)) → WP 69 0 [some (.ref 2), none, none] [] h (fun v1 h1 => WP 42 30 [some (.ref 1), some (.int (nI lo)), some (.int (nI hi)), d3] (v1.toList ++ []) h1 Q)) (k4 : (¬ (zI h 2 4) = (Int32.ofInt 2)) → (¬ (zI h 2 4) = (Int32.ofInt 4)) → Q (some (.int (Int32.ofInt 0))) (yI (yI h 1 1 (Int32.ofInt 2)) 1 2 (zI h 2 5))) (k5 : (¬ (zI h 2 4) = (Int32.ofInt 2)) → ((zI h 2 4) = (Int32.ofInt 4)) → Q (some (.int (Int32.ofInt 0))) (yI (yI h 1 1 (Int32.ofInt 1)) 1 2 (zI h 2 5))) : WP 42 7 [some (.ref 1), some (.int (nI lo)), some (.int (nI hi)), d3] [] h Q :=
  B42_7 (S.T 1) (S.R 1 0) (S.T 2) (fun c1 => B42_23 (S.T 1) (S.R 1 0) (S.T 2) (k2 c1)) (fun c1 => B42_18 (S.T 1) (B43_0 (S.T 1) (S.R 1 0) (S.T 2) (fun c3 => B43_16 (B43_17 (S.T 1) (S.R 1 0) (S.T 2) (S.T 1) (B45_0 (S.T 1) oi0 (B43_27 oi0 (B42_22 oi0 (k4 c1 c3)))))) (fun c3 => B43_12 (B43_17 (S.T 1) (S.R 1 0) (S.T 2) (S.T 1) (B45_0 (S.T 1) oi0 (B43_27 oi0 (B42_22 oi0 (k5 c1 c3))))))))
theorem V42s {h : pm_H} {Q : Option Value → pm_H → Prop} {d3 : Option Value} {lo : Nat} {hi : Nat} {v : Nat} (S : SK h) (k3 : ((nI v) < (nI lo)) → Q (some (.int (Int32.ofInt 0))) (yI (yI h 1 1 (Int32.ofInt 4)) 1 2 (zI h 2 5))) (k5 : (¬ (nI v) < (nI lo)) → ((nI v) ≤ (nI hi)) → Q (some (.int (Int32.ofInt 1))) h) (k7 : (¬ (nI v) < (nI lo)) → (¬ (nI v) ≤ (nI hi)) → Q (some (.int (Int32.ofInt 0))) (yI (yI h 1 1 (Int32.ofInt 4)) 1 2 (zI h 2 5))) : WP 42 30 [some (.ref 1), some (.int (nI lo)), some (.int (nI hi)), d3] [.int (nI v)] h Q :=
  B42_30 (fun c1 => B42_41 (S.T 1) (B44_0 (S.T 1) (S.R 1 0) (S.T 2) (B45_0 (S.T 1) oi0 (B44_12 oi0 (B42_46 (fun _ => B42_53 (B42_54 oi0 (k3 c1))) (fun q => absurd (by decide) q)))))) (fun c1 => B42_36 (fun c4 => B42_49 (B42_54 oi1 (k5 c1 c4))) (fun c4 => B42_41 (S.T 1) (B44_0 (S.T 1) (S.R 1 0) (S.T 2) (B45_0 (S.T 1) oi0 (B44_12 oi0 (B42_46 (fun _ => B42_53 (B42_54 oi0 (k7 c1 c4))) (fun q => absurd (by decide) q)))))))
theorem V41 {h : pm_H} {Q : Option Value → pm_H → Prop} {c : Nat} (S : SK h) (k1 : WP 66 0 [some (.ref 2), none] [] h (fun v1 h1 => WP 41 7 [some (.ref 1), some (.int (nI c))] (v1.toList ++ []) h1 Q)) : WP 41 0 [some (.ref 1), some (.int (nI c))] [] h Q :=
  B41_0 (S.T 1) (S.R 1 0) (S.T 2) k1
theorem V41r {h : pm_H} {Q : Option Value → pm_H → Prop} {c : Nat} (S : SK h) (k5 : (¬ (zI h 2 4) = (Int32.ofInt 3)) → (¬ (zI h 2 4) = (Int32.ofInt 4)) → Q (some (.int (Int32.ofInt 0))) (yI (yI h 1 1 (Int32.ofInt 2)) 1 2 (zI h 2 5))) (k7 : (¬ (zI h 2 4) = (Int32.ofInt 3)) → ((zI h 2 4) = (Int32.ofInt 4)) → Q (some (.int (Int32.ofInt 0))) (yI (yI h 1 1 (Int32.ofInt 1)) 1 2 (zI h 2 5))) (g8 : ((zI h 2 4) = (Int32.ofInt 3)) → vp_in (zI h 2 5) 800) (k13 : ((zI h 2 4) = (Int32.ofInt 3)) → (¬ (zI h 3 ((zI h 2 5)).toNatClampNeg) = (nI c)) → (¬ (zI h 2 4) = (Int32.ofInt 4)) → Q (some (.int (Int32.ofInt 0))) (yI (yI h 1 1 (Int32.ofInt 2)) 1 2 (zI h 2 5))) (k15 : ((zI h 2 4) = (Int32.ofInt 3)) → (¬ (zI h 3 ((zI h 2 5)).toNatClampNeg) = (nI c)) → ((zI h 2 4) = (Int32.ofInt 4)) → Q (some (.int (Int32.ofInt 0))) (yI (yI h 1 1 (Int32.ofInt 1)) 1 2 (zI h 2 5))) (k17 : ((zI h 2 4) = (Int32.ofInt 3)) → ((zI h 3 ((zI h 2 5)).toNatClampNeg) = (nI c)) → Q (some (.int (Int32.ofInt 1))) h) : WP 41 7 [some (.ref 1), some (.int (nI c))] [] h Q :=
  B41_7 (S.T 1) (S.R 1 0) (S.T 2) (B73_0 (S.T 2) (fun c1 => B73_25 (B73_26 oi0 (B41_15 (fun q => absurd (by decide) q) (fun _ => B41_18 (S.T 1) (B43_0 (S.T 1) (S.R 1 0) (S.T 2) (fun c3 => B43_16 (B43_17 (S.T 1) (S.R 1 0) (S.T 2) (S.T 1) (B45_0 (S.T 1) oi0 (B43_27 oi0 (B41_22 (fun _ => B41_29 (B41_30 oi0 (k5 c1 c3))) (fun q => absurd (by decide) q)))))) (fun c3 => B43_12 (B43_17 (S.T 1) (S.R 1 0) (S.T 2) (S.T 1) (B45_0 (S.T 1) oi0 (B43_27 oi0 (B41_22 (fun _ => B41_29 (B41_30 oi0 (k7 c1 c3))) (fun q => absurd (by decide) q))))))))))) (fun c1 => B73_8 (S.T 2) (S.R 2 0) ⟨(S.T 3), (S.bd 3 (g8 c1))⟩ (fun c9 => B73_25 (B73_26 oi0 (B41_15 (fun q => absurd (by decide) q) (fun _ => B41_18 (S.T 1) (B43_0 (S.T 1) (S.R 1 0) (S.T 2) (fun c11 => B43_16 (B43_17 (S.T 1) (S.R 1 0) (S.T 2) (S.T 1) (B45_0 (S.T 1) oi0 (B43_27 oi0 (B41_22 (fun _ => B41_29 (B41_30 oi0 (k13 c1 c9 c11))) (fun q => absurd (by decide) q)))))) (fun c11 => B43_12 (B43_17 (S.T 1) (S.R 1 0) (S.T 2) (S.T 1) (B45_0 (S.T 1) oi0 (B43_27 oi0 (B41_22 (fun _ => B41_29 (B41_30 oi0 (k15 c1 c9 c11))) (fun q => absurd (by decide) q))))))))))) (fun c9 => B73_21 (B73_26 oi1 (B41_15 (fun _ => B41_25 (B41_30 oi1 (k17 c1 c9))) (fun q => absurd q (by decide)))))))
theorem V40 {h : pm_H} {Q : Option Value → pm_H → Prop}  (S : SK h) (k1 : WP 66 0 [some (.ref 2), none] [] h (fun v1 h1 => WP 40 7 [some (.ref 1)] (v1.toList ++ []) h1 Q)) : WP 40 0 [some (.ref 1)] [] h Q :=
  B40_0 (S.T 1) (S.R 1 0) (S.T 2) k1
theorem V40r {h : pm_H} {Q : Option Value → pm_H → Prop}  (S : SK h) (k5 : (¬ (zI h 2 4) = (Int32.ofInt 1)) → (¬ (zI h 2 4) = (Int32.ofInt 4)) → Q (some (.int (Int32.ofInt 0))) (yI (yI h 1 1 (Int32.ofInt 2)) 1 2 (zI h 2 5))) (k7 : (¬ (zI h 2 4) = (Int32.ofInt 1)) → ((zI h 2 4) = (Int32.ofInt 4)) → Q (some (.int (Int32.ofInt 0))) (yI (yI h 1 1 (Int32.ofInt 1)) 1 2 (zI h 2 5))) (k12 : ((zI h 2 4) = (Int32.ofInt 1)) → (¬ ((zI h 2 3) - (zI h 2 5)) = (Int32.ofInt 1)) → (¬ (zI h 2 4) = (Int32.ofInt 4)) → Q (some (.int (Int32.ofInt 0))) (yI (yI h 1 1 (Int32.ofInt 2)) 1 2 (zI h 2 5))) (k14 : ((zI h 2 4) = (Int32.ofInt 1)) → (¬ ((zI h 2 3) - (zI h 2 5)) = (Int32.ofInt 1)) → ((zI h 2 4) = (Int32.ofInt 4)) → Q (some (.int (Int32.ofInt 0))) (yI (yI h 1 1 (Int32.ofInt 1)) 1 2 (zI h 2 5))) (k16 : ((zI h 2 4) = (Int32.ofInt 1)) → (((zI h 2 3) - (zI h 2 5)) = (Int32.ofInt 1)) → Q (some (.int (Int32.ofInt 1))) h) : WP 40 7 [some (.ref 1)] [] h Q :=
  B40_7 (S.T 1) (S.R 1 0) (S.T 2) (B75_0 (S.T 2) (fun c1 => B75_25 (B75_26 oi0 (B40_14 (fun q => absurd (by decide) q) (fun _ => B40_17 (S.T 1) (B43_0 (S.T 1) (S.R 1 0) (S.T 2) (fun c3 => B43_16 (B43_17 (S.T 1) (S.R 1 0) (S.T 2) (S.T 1) (B45_0 (S.T 1) oi0 (B43_27 oi0 (B40_21 (fun _ => B40_28 (B40_29 oi0 (k5 c1 c3))) (fun q => absurd (by decide) q)))))) (fun c3 => B43_12 (B43_17 (S.T 1) (S.R 1 0) (S.T 2) (S.T 1) (B45_0 (S.T 1) oi0 (B43_27 oi0 (B40_21 (fun _ => B40_28 (B40_29 oi0 (k7 c1 c3))) (fun q => absurd (by decide) q))))))))))) (fun c1 => B75_8 (S.T 2) (fun c8 => B75_25 (B75_26 oi0 (B40_14 (fun q => absurd (by decide) q) (fun _ => B40_17 (S.T 1) (B43_0 (S.T 1) (S.R 1 0) (S.T 2) (fun c10 => B43_16 (B43_17 (S.T 1) (S.R 1 0) (S.T 2) (S.T 1) (B45_0 (S.T 1) oi0 (B43_27 oi0 (B40_21 (fun _ => B40_28 (B40_29 oi0 (k12 c1 c8 c10))) (fun q => absurd (by decide) q)))))) (fun c10 => B43_12 (B43_17 (S.T 1) (S.R 1 0) (S.T 2) (S.T 1) (B45_0 (S.T 1) oi0 (B43_27 oi0 (B40_21 (fun _ => B40_28 (B40_29 oi0 (k14 c1 c8 c10))) (fun q => absurd (by decide) q))))))))))) (fun c8 => B75_21 (B75_26 oi1 (B40_14 (fun _ => B40_24 (B40_29 oi1 (k16 c1 c8))) (fun q => absurd q (by decide)))))))
theorem V35 {h : pm_H} {Q : Option Value → pm_H → Prop} {d1 : Option Value} {d2 : Option Value} (S : SK h) (k2 : (¬ (zI h 2 4) = (Int32.ofInt 1)) → WP 42 0 [some (.ref 1), some (.int (Int32.ofInt 1)), some (.int (Int32.ofInt 200)), none] [] h (fun v1 h1 => WP 35 24 [some (.ref 1), some (.int (Int32.ofInt (-1))), some (.int (zI h 2 5))] (v1.toList ++ []) h1 Q)) (g3 : ((zI h 2 4) = (Int32.ofInt 1)) → vp_in (zI h 2 5) 800) (k4 : ((zI h 2 4) = (Int32.ofInt 1)) → WP 42 0 [some (.ref 1), some (.int (Int32.ofInt 1)), some (.int (Int32.ofInt 200)), none] [] h (fun v1 h1 => WP 35 24 [some (.ref 1), some (.int ((zI h 3 ((zI h 2 5)).toNatClampNeg) - (Int32.ofInt 97))), some (.int (zI h 2 5))] (v1.toList ++ []) h1 Q)) : WP 35 0 [some (.ref 1), d1, d2] [] h Q :=
  B35_0 (S.T 1) (S.R 1 0) (S.T 2) (B70_0 (S.T 2) (fun c1 => B70_23 (B70_24 (B35_7 (S.T 1) (S.R 1 0) (S.T 2) (k2 c1)))) (fun c1 => B70_8 (S.T 2) (S.R 2 0) ⟨(S.T 3), (S.bd 3 (g3 c1))⟩ (B70_24 (B35_7 (S.T 1) (S.R 1 0) (S.T 2) (k4 c1)))))
theorem V35r {h : pm_H} {Q : Option Value → pm_H → Prop} {b : Int32} {c : Nat} {p : Nat} (S : SK h) (k2 : (¬ b = 0) → WP 69 0 [some (.ref 2), none, none] [] h (fun v1 h1 => WP 35 41 [some (.ref 1), some (.int (nI c)), some (.int (nI p))] (v1.toList ++ [.int (nI c), .ref 4]) h1 Q)) (k3 : (b = 0) → Q (some (.int (Int32.ofInt 0))) h) : WP 35 24 [some (.ref 1), some (.int (nI c)), some (.int (nI p))] [.int b] h Q :=
  B35_24 (fun c1 => B35_29 (S.T 1) (S.R 1 3) (S.R 1 0) (S.T 2) (k2 c1)) (fun c1 => B35_27 oi0 (k3 c1))
theorem V35t {h : pm_H} {Q : Option Value → pm_H → Prop} {c : Nat} {p : Nat} {v : Nat} (S : SK h) (k1 : WP 79 0 [some (.ref 4), some (.int (nI c)), some (.int (nI v)), none] [] h (fun v1 h1 => WP 35 44 [some (.ref 1), some (.int (nI c)), some (.int (nI p))] (v1.toList ++ []) h1 Q)) : WP 35 41 [some (.ref 1), some (.int (nI c)), some (.int (nI p))] [.int (nI v), .int (nI c), .ref 4] h Q :=
  B35_41 (S.T 4) k1
theorem V35s {h : pm_H} {Q : Option Value → pm_H → Prop} {b : Int32} {c : Nat} {p : Nat} (S : SK h) (k2 : (¬ b = 0) → Q (some (.int (Int32.ofInt 1))) h) (k4 : (b = 0) → Q (some (.int (Int32.ofInt 0))) (yI (yI h 1 1 (Int32.ofInt 7)) 1 2 (nI p))) : WP 35 44 [some (.ref 1), some (.int (nI c)), some (.int (nI p))] [.int b] h Q :=
  B35_44 (fun c1 => B35_57 (B35_62 oi1 (k2 c1))) (fun c1 => B35_47 (S.T 1) (B45_0 (S.T 1) oi0 (B35_54 (fun _ => B35_61 (B35_62 oi0 (k4 c1))) (fun q => absurd (by decide) q))))
theorem V36 {h : pm_H} {Q : Option Value → pm_H → Prop} {d1 : Option Value} (S : SK h) (k2 : (¬ (zI h 2 4) = (Int32.ofInt 2)) → WP 41 0 [some (.ref 1), some (.int (Int32.ofInt 40))] [] h (fun v1 h1 => WP 36 44 [some (.ref 1), some (.int (Int32.ofInt 0))] (v1.toList ++ []) h1 Q)) (k3 : ((zI h 2 4) = (Int32.ofInt 2)) → WP 69 0 [some (.ref 2), none, none] [] h (fun v1 h1 => WP 36 20 [some (.ref 1), some (.int (Int32.ofInt 0))] (v1.toList ++ []) h1 Q)) : WP 36 0 [some (.ref 1), d1] [] h Q :=
  B36_0 (S.T 1) (S.R 1 0) (S.T 2) (fun c1 => B36_38 (S.T 1) (k2 c1)) (fun c1 => B36_13 (S.T 1) (S.R 1 0) (S.T 2) (k3 c1))
theorem V36t {h : pm_H} {Q : Option Value → pm_H → Prop} {d1 : Option Value} {v : Nat} (S : SK h) (k2 : ((nI v) < (Int32.ofInt 2)) → Q (some (.int (Int32.ofInt 0))) (yI (yI h 1 1 (Int32.ofInt 4)) 1 2 (zI h 2 5))) (k4 : (¬ (nI v) < (Int32.ofInt 2)) → ((nI v) ≤ (Int32.ofInt 50)) → WP 41 0 [some (.ref 1), some (.int (Int32.ofInt 40))] [] h (fun v1 h1 => WP 36 44 [some (.ref 1), some (.int (nI v))] (v1.toList ++ []) h1 Q)) (k5 : (¬ (nI v) < (Int32.ofInt 2)) → (¬ (nI v) ≤ (Int32.ofInt 50)) → Q (some (.int (Int32.ofInt 0))) (yI (yI h 1 1 (Int32.ofInt 4)) 1 2 (zI h 2 5))) : WP 36 20 [some (.ref 1), d1] [.int (nI v)] h Q :=
  B36_20 (fun c1 => B36_32 (S.T 1) (B44_0 (S.T 1) (S.R 1 0) (S.T 2) (B45_0 (S.T 1) oi0 (B44_12 oi0 (B36_37 oi0 (k2 c1)))))) (fun c1 => B36_26 (fun c3 => B36_38 (S.T 1) (k4 c1 c3)) (fun c3 => B36_32 (S.T 1) (B44_0 (S.T 1) (S.R 1 0) (S.T 2) (B45_0 (S.T 1) oi0 (B44_12 oi0 (B36_37 oi0 (k5 c1 c3)))))))
theorem V36r {h : pm_H} {Q : Option Value → pm_H → Prop} {b : Int32} {t : Nat} (S : SK h) (k2 : (¬ b = 0) → WP 80 0 [some (.ref 4), some (.int (nI t))] [] h (fun v1 h1 => WP 36 57 [some (.ref 1), some (.int (nI t))] (v1.toList ++ []) h1 Q)) (k3 : (b = 0) → Q (some (.int (Int32.ofInt 0))) h) : WP 36 44 [some (.ref 1), some (.int (nI t))] [.int b] h Q :=
  B36_44 (fun c1 => B36_49 (S.T 1) (S.R 1 3) (S.T 4) (k2 c1)) (fun c1 => B36_47 oi0 (k3 c1))
theorem V36s {h : pm_H} {Q : Option Value → pm_H → Prop} {b : Int32} {t : Nat} (S : SK h) (k2 : (¬ b = 0) → Q (some (.int (Int32.ofInt 1))) h) (k4 : (b = 0) → Q (some (.int (Int32.ofInt 0))) (yI (yI h 1 1 (Int32.ofInt 3)) 1 2 (zI h 2 5))) : WP 36 57 [some (.ref 1), some (.int (nI t))] [.int b] h Q :=
  B36_57 (fun c1 => B36_68 (B36_73 oi1 (k2 c1))) (fun c1 => B36_60 (S.T 1) (B44_0 (S.T 1) (S.R 1 0) (S.T 2) (B45_0 (S.T 1) oi0 (B44_12 oi0 (B36_65 (fun _ => B36_72 (B36_73 oi0 (k4 c1))) (fun q => absurd (by decide) q))))))
theorem V34 {h : pm_H} {Q : Option Value → pm_H → Prop} {d1 : Option Value} {d2 : Option Value} {d3 : Option Value} (S : SK h) (k1 : WP 34 11 [some (.ref 1), some (.int (Int32.ofInt 0)), some (.int (Int32.ofInt 0)), d3] [] (yI (yI h 4 1 (Int32.ofInt 0)) 4 4 (Int32.ofInt 0)) Q) : WP 34 0 [some (.ref 1), d1, d2, d3] [] h Q :=
  B34_0 (S.T 1) (S.R 1 3) (S.T 4) (B78_0 (S.T 4) (B34_7 (k1)))
theorem V34L {h : pm_H} {Q : Option Value → pm_H → Prop} {hs : Int32} {d3 : Option Value} {k : Nat} (S : SK h) (k2 : ((Int32.ofInt 800) < (nI k)) → WP 43 0 [some (.ref 1)] [] h (fun v1 h1 => WP 34 188 [some (.ref 1), some (.int hs), some (.int (nI k)), d3] (v1.toList ++ []) h1 Q)) (k3 : (¬ (Int32.ofInt 800) < (nI k)) → WP 66 0 [some (.ref 2), none] [] h (fun v1 h1 => WP 34 25 [some (.ref 1), some (.int hs), some (.int (nI k)), d3] (v1.toList ++ []) h1 Q)) : WP 34 11 [some (.ref 1), some (.int hs), some (.int (nI k)), d3] [] h Q :=
  B34_11 (fun c1 => B34_184 (S.T 1) (k2 c1)) (fun c1 => B34_18 (S.T 1) (S.R 1 0) (S.T 2) (k3 c1))
theorem V34a {h : pm_H} {Q : Option Value → pm_H → Prop} {hs : Int32} {d3 : Option Value} {k : Nat} (S : SK h) (k5 : (¬ (zI h 2 4) = (Int32.ofInt 1)) → ((zI h 2 4) = (Int32.ofInt 2)) → WP 36 0 [some (.ref 1), none] [] h (fun v1 h1 => WP 34 76 [some (.ref 1), some (.int hs), some (.int (nI k)), d3] (v1.toList ++ []) h1 Q)) (k6 : (¬ (zI h 2 4) = (Int32.ofInt 1)) → (¬ (zI h 2 4) = (Int32.ofInt 2)) → WP 68 0 [some (.ref 2), some (.retAddr 2), none] [] h (fun v1 h1 => WP 34 69 [some (.ref 1), some (.int hs), some (.int (nI k)), d3] (v1.toList ++ []) h1 Q)) (k11 : ((zI h 2 4) = (Int32.ofInt 1)) → (¬ ((zI h 2 3) - (zI h 2 5)) = (Int32.ofInt 1)) → ((zI h 2 4) = (Int32.ofInt 2)) → WP 36 0 [some (.ref 1), none] [] h (fun v1 h1 => WP 34 76 [some (.ref 1), some (.int hs), some (.int (nI k)), d3] (v1.toList ++ []) h1 Q)) (k12 : ((zI h 2 4) = (Int32.ofInt 1)) → (¬ ((zI h 2 3) - (zI h 2 5)) = (Int32.ofInt 1)) → (¬ (zI h 2 4) = (Int32.ofInt 2)) → WP 68 0 [some (.ref 2), some (.retAddr 2), none] [] h (fun v1 h1 => WP 34 69 [some (.ref 1), some (.int hs), some (.int (nI k)), d3] (v1.toList ++ []) h1 Q)) (k17 : ((zI h 2 4) = (Int32.ofInt 1)) → (((zI h 2 3) - (zI h 2 5)) = (Int32.ofInt 1)) → (¬ (zI h 2 4) = (Int32.ofInt 1)) → WP 35 0 [some (.ref 1), none, none] [] h (fun v1 h1 => WP 34 39 [some (.ref 1), some (.int hs), some (.int (nI k)), d3] (v1.toList ++ []) h1 Q)) (g18 : ((zI h 2 4) = (Int32.ofInt 1)) → (((zI h 2 3) - (zI h 2 5)) = (Int32.ofInt 1)) → ((zI h 2 4) = (Int32.ofInt 1)) → vp_in (zI h 2 5) 800) (k22 : ((zI h 2 4) = (Int32.ofInt 1)) → (((zI h 2 3) - (zI h 2 5)) = (Int32.ofInt 1)) → ((zI h 2 4) = (Int32.ofInt 1)) → ((Int32.ofInt 8) ≤ ((zI h 3 ((zI h 2 5)).toNatClampNeg) - (Int32.ofInt 97))) → ((zI h 2 4) = (Int32.ofInt 2)) → WP 36 0 [some (.ref 1), none] [] h (fun v1 h1 => WP 34 76 [some (.ref 1), some (.int hs), some (.int (nI k)), d3] (v1.toList ++ []) h1 Q)) (k23 : ((zI h 2 4) = (Int32.ofInt 1)) → (((zI h 2 3) - (zI h 2 5)) = (Int32.ofInt 1)) → ((zI h 2 4) = (Int32.ofInt 1)) → ((Int32.ofInt 8) ≤ ((zI h 3 ((zI h 2 5)).toNatClampNeg) - (Int32.ofInt 97))) → (¬ (zI h 2 4) = (Int32.ofInt 2)) → WP 68 0 [some (.ref 2), some (.retAddr 2), none] [] h (fun v1 h1 => WP 34 69 [some (.ref 1), some (.int hs), some (.int (nI k)), d3] (v1.toList ++ []) h1 Q)) (k25 : ((zI h 2 4) = (Int32.ofInt 1)) → (((zI h 2 3) - (zI h 2 5)) = (Int32.ofInt 1)) → ((zI h 2 4) = (Int32.ofInt 1)) → (¬ (Int32.ofInt 8) ≤ ((zI h 3 ((zI h 2 5)).toNatClampNeg) - (Int32.ofInt 97))) → WP 35 0 [some (.ref 1), none, none] [] h (fun v1 h1 => WP 34 39 [some (.ref 1), some (.int hs), some (.int (nI k)), d3] (v1.toList ++ []) h1 Q)) : WP 34 25 [some (.ref 1), some (.int hs), some (.int (nI k)), d3] [] h Q :=
  B34_25 (S.T 1) (S.R 1 0) (S.T 2) (B76_0 (S.T 2) (B75_0 (S.T 2) (fun c1 => B75_25 (B75_26 oi0 (B76_4 (fun _ => B76_20 (B76_21 oi0 (B34_32 (fun _ => B34_49 (S.T 1) (S.R 1 0) (S.T 2) (fun c4 => B34_72 (S.T 1) (k5 c1 c4)) (fun c4 => B34_60 (S.T 1) (S.R 1 0) (S.T 2) (k6 c1 c4))) (fun q => absurd (by decide) q)))) (fun q => absurd (by decide) q)))) (fun c1 => B75_8 (S.T 2) (fun c7 => B75_25 (B75_26 oi0 (B76_4 (fun _ => B76_20 (B76_21 oi0 (B34_32 (fun _ => B34_49 (S.T 1) (S.R 1 0) (S.T 2) (fun c10 => B34_72 (S.T 1) (k11 c1 c7 c10)) (fun c10 => B34_60 (S.T 1) (S.R 1 0) (S.T 2) (k12 c1 c7 c10))) (fun q => absurd (by decide) q)))) (fun q => absurd (by decide) q)))) (fun c7 => B75_21 (B75_26 oi1 (B76_4 (fun q => absurd q (by decide)) (fun _ => B76_7 (S.T 2) (B70_0 (S.T 2) (fun c14 => B70_23 (B70_24 (B76_11 (fun q => absurd q (by decide)) (fun _ => B76_16 (B76_21 oi1 (B34_32 (fun q => absurd q (by decide)) (fun _ => B34_35 (S.T 1) (k17 c1 c7 c14)))))))) (fun c14 => B70_8 (S.T 2) (S.R 2 0) ⟨(S.T 3), (S.bd 3 (g18 c1 c7 c14))⟩ (B70_24 (B76_11 (fun c19 => B76_20 (B76_21 oi0 (B34_32 (fun _ => B34_49 (S.T 1) (S.R 1 0) (S.T 2) (fun c21 => B34_72 (S.T 1) (k22 c1 c7 c14 c19 c21)) (fun c21 => B34_60 (S.T 1) (S.R 1 0) (S.T 2) (k23 c1 c7 c14 c19 c21))) (fun q => absurd (by decide) q)))) (fun c19 => B76_16 (B76_21 oi1 (B34_32 (fun q => absurd q (by decide)) (fun _ => B34_35 (S.T 1) (k25 c1 c7 c14 c19))))))))))))))))
theorem V34g {h : pm_H} {Q : Option Value → pm_H → Prop} {hs : Int32} {b : Int32} {d3 : Option Value} {k : Nat} (S : SK h) (k2 : (b = 0) → WP 34 86 [some (.ref 1), some (.int hs), some (.int (nI k)), d3] [] h Q) (k3 : (¬ b = 0) → WP 36 0 [some (.ref 1), none] [] h (fun v1 h1 => WP 34 76 [some (.ref 1), some (.int hs), some (.int (nI k)), d3] (v1.toList ++ []) h1 Q)) : WP 34 69 [some (.ref 1), some (.int hs), some (.int (nI k)), d3] [.int b] h Q :=
  B34_69 (fun c1 => k2 c1) (fun c1 => B34_72 (S.T 1) (k3 c1))
theorem V34e {h : pm_H} {Q : Option Value → pm_H → Prop} {hs : Int32} {d3 : Option Value} {k : Nat} (S : SK h) (k3 : (¬ (zI h 2 4) = (Int32.ofInt 3)) → WP 34 129 [some (.ref 1), some (.int hs), some (.int (nI k)), d3] [] h Q) (g4 : ((zI h 2 4) = (Int32.ofInt 3)) → vp_in (zI h 2 5) 800) (k7 : ((zI h 2 4) = (Int32.ofInt 3)) → (¬ (zI h 3 ((zI h 2 5)).toNatClampNeg) = (Int32.ofInt 41)) → WP 34 129 [some (.ref 1), some (.int hs), some (.int (nI k)), d3] [] h Q) (k10 : ((zI h 2 4) = (Int32.ofInt 3)) → ((zI h 3 ((zI h 2 5)).toNatClampNeg) = (Int32.ofInt 41)) → ((zI h 4 4) ≤ 0) → WP 34 129 [some (.ref 1), some (.int hs), some (.int (nI k)), d3] [] h Q) (k12 : ((zI h 2 4) = (Int32.ofInt 3)) → ((zI h 3 ((zI h 2 5)).toNatClampNeg) = (Int32.ofInt 41)) → (¬ (zI h 4 4) ≤ 0) → (hs = 0) → WP 34 129 [some (.ref 1), some (.int hs), some (.int (nI k)), d3] [] h Q) (k13 : ((zI h 2 4) = (Int32.ofInt 3)) → ((zI h 3 ((zI h 2 5)).toNatClampNeg) = (Int32.ofInt 41)) → (¬ (zI h 4 4) ≤ 0) → (¬ hs = 0) → WP 81 0 [some (.ref 4)] [] h (fun v1 h1 => WP 34 119 [some (.ref 1), some (.int hs), some (.int (nI k)), d3] (v1.toList ++ []) h1 Q)) : WP 34 86 [some (.ref 1), some (.int hs), some (.int (nI k)), d3] [] h Q :=
  B34_86 (S.T 1) (S.R 1 0) (S.T 2) (B73_0 (S.T 2) (fun c1 => B73_25 (B73_26 oi0 (B34_95 (fun _ => k3 c1) (fun q => absurd (by decide) q)))) (fun c1 => B73_8 (S.T 2) (S.R 2 0) ⟨(S.T 3), (S.bd 3 (g4 c1))⟩ (fun c5 => B73_25 (B73_26 oi0 (B34_95 (fun _ => k7 c1 c5) (fun q => absurd (by decide) q)))) (fun c5 => B73_21 (B73_26 oi1 (B34_95 (fun q => absurd q (by decide)) (fun _ => B34_98 (S.T 1) (S.R 1 3) (S.T 4) (fun c9 => k10 c1 c5 c9) (fun c9 => B34_108 (fun c11 => k12 c1 c5 c9 c11) (fun c11 => B34_112 (S.T 1) (S.R 1 3) (S.T 4) (k13 c1 c5 c9 c11)))))))))
theorem V34f {h : pm_H} {Q : Option Value → pm_H → Prop} {hs : Int32} {d3 : Option Value} {k : Nat} (S : SK h) (k6 : (¬ (zI h 2 4) = (Int32.ofInt 3)) → (¬ (zI h 2 4) = (Int32.ofInt 4)) → Q (some (.int (Int32.ofInt 0))) (yI (yI h 1 1 (Int32.ofInt 2)) 1 2 (zI h 2 5))) (k8 : (¬ (zI h 2 4) = (Int32.ofInt 3)) → ((zI h 2 4) = (Int32.ofInt 4)) → Q (some (.int (Int32.ofInt 0))) (yI (yI h 1 1 (Int32.ofInt 1)) 1 2 (zI h 2 5))) (g9 : ((zI h 2 4) = (Int32.ofInt 3)) → vp_in (zI h 2 5) 800) (k15 : ((zI h 2 4) = (Int32.ofInt 3)) → (¬ (zI h 3 ((zI h 2 5)).toNatClampNeg) = (Int32.ofInt 59)) → (¬ (zI h 2 4) = (Int32.ofInt 4)) → Q (some (.int (Int32.ofInt 0))) (yI (yI h 1 1 (Int32.ofInt 2)) 1 2 (zI h 2 5))) (k17 : ((zI h 2 4) = (Int32.ofInt 3)) → (¬ (zI h 3 ((zI h 2 5)).toNatClampNeg) = (Int32.ofInt 59)) → ((zI h 2 4) = (Int32.ofInt 4)) → Q (some (.int (Int32.ofInt 0))) (yI (yI h 1 1 (Int32.ofInt 1)) 1 2 (zI h 2 5))) (k23 : ((zI h 2 4) = (Int32.ofInt 3)) → ((zI h 3 ((zI h 2 5)).toNatClampNeg) = (Int32.ofInt 59)) → (¬ (zI h 4 4) = 0) → (¬ (zI h 2 4) = (Int32.ofInt 4)) → Q (some (.int (Int32.ofInt 0))) (yI (yI h 1 1 (Int32.ofInt 2)) 1 2 (zI h 2 5))) (k25 : ((zI h 2 4) = (Int32.ofInt 3)) → ((zI h 3 ((zI h 2 5)).toNatClampNeg) = (Int32.ofInt 59)) → (¬ (zI h 4 4) = 0) → ((zI h 2 4) = (Int32.ofInt 4)) → Q (some (.int (Int32.ofInt 0))) (yI (yI h 1 1 (Int32.ofInt 1)) 1 2 (zI h 2 5))) (k30 : ((zI h 2 4) = (Int32.ofInt 3)) → ((zI h 3 ((zI h 2 5)).toNatClampNeg) = (Int32.ofInt 59)) → ((zI h 4 4) = 0) → (hs = 0) → (¬ (zI h 2 4) = (Int32.ofInt 4)) → Q (some (.int (Int32.ofInt 0))) (yI (yI h 1 1 (Int32.ofInt 2)) 1 2 (zI h 2 5))) (k32 : ((zI h 2 4) = (Int32.ofInt 3)) → ((zI h 3 ((zI h 2 5)).toNatClampNeg) = (Int32.ofInt 59)) → ((zI h 4 4) = 0) → (hs = 0) → ((zI h 2 4) = (Int32.ofInt 4)) → Q (some (.int (Int32.ofInt 0))) (yI (yI h 1 1 (Int32.ofInt 1)) 1 2 (zI h 2 5))) (k34 : ((zI h 2 4) = (Int32.ofInt 3)) → ((zI h 3 ((zI h 2 5)).toNatClampNeg) = (Int32.ofInt 59)) → ((zI h 4 4) = 0) → (¬ hs = 0) → Q (some (.int (Int32.ofInt 1))) h) : WP 34 129 [some (.ref 1), some (.int hs), some (.int (nI k)), d3] [] h Q :=
  B34_129 (S.T 1) (S.R 1 0) (S.T 2) (B73_0 (S.T 2) (fun c1 => B73_25 (B73_26 oi0 (B34_138 (fun _ => B34_159 (B34_160 (fun q => absurd (by decide) q) (fun _ => B34_165 (S.T 1) (B43_0 (S.T 1) (S.R 1 0) (S.T 2) (fun c4 => B43_16 (B43_17 (S.T 1) (S.R 1 0) (S.T 2) (S.T 1) (B45_0 (S.T 1) oi0 (B43_27 oi0 (B34_169 (fun _ => B34_176 (B34_177 oi0 (k6 c1 c4))) (fun q => absurd (by decide) q)))))) (fun c4 => B43_12 (B43_17 (S.T 1) (S.R 1 0) (S.T 2) (S.T 1) (B45_0 (S.T 1) oi0 (B43_27 oi0 (B34_169 (fun _ => B34_176 (B34_177 oi0 (k8 c1 c4))) (fun q => absurd (by decide) q)))))))))) (fun q => absurd (by decide) q)))) (fun c1 => B73_8 (S.T 2) (S.R 2 0) ⟨(S.T 3), (S.bd 3 (g9 c1))⟩ (fun c10 => B73_25 (B73_26 oi0 (B34_138 (fun _ => B34_159 (B34_160 (fun q => absurd (by decide) q) (fun _ => B34_165 (S.T 1) (B43_0 (S.T 1) (S.R 1 0) (S.T 2) (fun c13 => B43_16 (B43_17 (S.T 1) (S.R 1 0) (S.T 2) (S.T 1) (B45_0 (S.T 1) oi0 (B43_27 oi0 (B34_169 (fun _ => B34_176 (B34_177 oi0 (k15 c1 c10 c13))) (fun q => absurd (by decide) q)))))) (fun c13 => B43_12 (B43_17 (S.T 1) (S.R 1 0) (S.T 2) (S.T 1) (B45_0 (S.T 1) oi0 (B43_27 oi0 (B34_169 (fun _ => B34_176 (B34_177 oi0 (k17 c1 c10 c13))) (fun q => absurd (by decide) q)))))))))) (fun q => absurd (by decide) q)))) (fun c10 => B73_21 (B73_26 oi1 (B34_138 (fun q => absurd q (by decide)) (fun _ => B34_141 (S.T 1) (S.R 1 3) (S.T 4) (fun c19 => B34_159 (B34_160 (fun q => absurd (by decide) q) (fun _ => B34_165 (S.T 1) (B43_0 (S.T 1) (S.R 1 0) (S.T 2) (fun c21 => B43_16 (B43_17 (S.T 1) (S.R 1 0) (S.T 2) (S.T 1) (B45_0 (S.T 1) oi0 (B43_27 oi0 (B34_169 (fun _ => B34_176 (B34_177 oi0 (k23 c1 c10 c19 c21))) (fun q => absurd (by decide) q)))))) (fun c21 => B43_12 (B43_17 (S.T 1) (S.R 1 0) (S.T 2) (S.T 1) (B45_0 (S.T 1) oi0 (B43_27 oi0 (B34_169 (fun _ => B34_176 (B34_177 oi0 (k25 c1 c10 c19 c21))) (fun q => absurd (by decide) q)))))))))) (fun c19 => B34_151 (fun c26 => B34_159 (B34_160 (fun q => absurd (by decide) q) (fun _ => B34_165 (S.T 1) (B43_0 (S.T 1) (S.R 1 0) (S.T 2) (fun c28 => B43_16 (B43_17 (S.T 1) (S.R 1 0) (S.T 2) (S.T 1) (B45_0 (S.T 1) oi0 (B43_27 oi0 (B34_169 (fun _ => B34_176 (B34_177 oi0 (k30 c1 c10 c19 c26 c28))) (fun q => absurd (by decide) q)))))) (fun c28 => B43_12 (B43_17 (S.T 1) (S.R 1 0) (S.T 2) (S.T 1) (B45_0 (S.T 1) oi0 (B43_27 oi0 (B34_169 (fun _ => B34_176 (B34_177 oi0 (k32 c1 c10 c19 c26 c28))) (fun q => absurd (by decide) q)))))))))) (fun c26 => B34_155 (B34_160 (fun _ => B34_172 (B34_177 oi1 (k34 c1 c10 c19 c26))) (fun q => absurd q (by decide)))))))))))
theorem V34b {h : pm_H} {Q : Option Value → pm_H → Prop} {hs : Int32} {b : Int32} {d3 : Option Value} {k : Nat} (S : SK h) (k2 : (¬ b = 0) → WP 34 11 [some (.ref 1), some (.int (Int32.ofInt 1)), some (.int ((nI k) + (Int32.ofInt 1))), d3] [] h Q) (k3 : (b = 0) → Q (some (.int (Int32.ofInt 0))) h) : WP 34 39 [some (.ref 1), some (.int hs), some (.int (nI k)), d3] [.int b] h Q :=
  B34_39 (fun c1 => B34_44 (B34_178 (k2 c1))) (fun c1 => B34_42 oi0 (k3 c1))
theorem V34c {h : pm_H} {Q : Option Value → pm_H → Prop} {hs : Int32} {b : Int32} {d3 : Option Value} {k : Nat} (S : SK h) (k2 : (¬ b = 0) → WP 34 11 [some (.ref 1), some (.int (Int32.ofInt 0)), some (.int ((nI k) + (Int32.ofInt 1))), d3] [] h Q) (k3 : (b = 0) → Q (some (.int (Int32.ofInt 0))) h) : WP 34 76 [some (.ref 1), some (.int hs), some (.int (nI k)), d3] [.int b] h Q :=
  B34_76 (fun c1 => B34_81 (B34_178 (k2 c1))) (fun c1 => B34_79 oi0 (k3 c1))
theorem V34d {h : pm_H} {Q : Option Value → pm_H → Prop} {hs : Int32} {b : Int32} {d3 : Option Value} {k : Nat} (S : SK h) (k2 : (¬ b = 0) → WP 34 11 [some (.ref 1), some (.int hs), some (.int ((nI k) + (Int32.ofInt 1))), d3] [] h Q) (k3 : (b = 0) → Q (some (.int (Int32.ofInt 0))) (yI (yI h 1 1 (Int32.ofInt 7)) 1 2 (zI h 2 5))) : WP 34 119 [some (.ref 1), some (.int hs), some (.int (nI k)), d3] [.int b] h Q :=
  B34_119 (fun c1 => B34_178 (k2 c1)) (fun c1 => B34_122 (S.T 1) (B44_0 (S.T 1) (S.R 1 0) (S.T 2) (B45_0 (S.T 1) oi0 (B44_12 oi0 (B34_128 oi0 (k3 c1))))))
section RDC
variable {h : pm_H} {Q : Option Value → pm_H → Prop} {ch : Nat → Nat} {n i : Nat}
theorem c42 {lo hi : Nat} (S : SK h) (hn : n ≤ 800) (hi' : i ≤ n) (hlo : lo ≤ 10000) (hhi : hi ≤ 10000) (e2 : zI h 2 2 = nI n) (e3 : zI h 2 3 = nI i) (hch : CH h 3 ch n)
    (kb : ¬ tkd ch n i = 2 → ∀ g, CF h g → zI g 1 1 = nI (cs1 ch n i) → zI g 1 2 = nI (tpl ch n i) → Q (some (.int (Int32.ofInt 0))) g)
    (k4 : tkd ch n i = 2 → tvl ch n i < lo ∨ hi < tvl ch n i → ∀ g, CF h g → zI g 1 1 = nI 4 → zI g 1 2 = nI (tpl ch n i) → Q (some (.int (Int32.ofInt 0))) g)
    (k0 : tkd ch n i = 2 → lo ≤ tvl ch n i → tvl ch n i ≤ hi → ∀ g, TpS h g → CT g ch n i → Q (some (.int (Int32.ofInt 1))) g) : WP 42 0 [some (.ref 1), some (.int (nI lo)), some (.int (nI hi)), none] [] h Q := by
  have t4 := tk_le (ch := ch) (n := n) (i := i)
  refine V42 S (c66 S hn hi' e2 e3 hch (fun g tg r3 r4 r5 r6 => ?_))
  have S' := tg.1.SK S
  by_cases k2 : tkd ch n i = 2
  · have vb := tk2 hn k2
    have ct : CT g ch n i := ⟨r3, r4, r5, r6⟩
    have C' : WP 69 0 [some (.ref 2), none, none] [] g (fun v1 h1 => WP 42 30 [some (.ref 1), some (.int (nI lo)), some (.int (nI hi)), none] (v1.toList ++ []) h1 Q) := c69t S' hn k2 ct (by
      by_cases c1 : tvl ch n i < lo
      · have k' := k4 k2 (Or.inl c1) (yI (yI g 1 1 (nI 4)) 1 2 (nI (tpl ch n i))) (((CF.T tg).F 1 _).F 2 _) (by simp [zI_yI, va_upA]) (by simp [zI_yI, va_upA])
        refine V42s  S' ?_ ?_ ?_ <;> simp (disch := omega) only [oi_l, oi_n, z_nI, nIA, nIM, nIS, nIlt, nIle, nIeq, nIC, vpI, Nat.add_sub_cancel, Nat.not_le, Nat.not_lt, Nat.not_lt_zero, Nat.le_refl, not_true_eq_false, not_false_eq_true, false_imp_iff, true_imp_iff, forall_const, implies_true, Nat.reduceEqDiff, Nat.reduceLeDiff, Nat.reduceLT, r5, c1] <;> first | omega | exact k'
      · by_cases c2 : hi < tvl ch n i
        · have k' := k4 k2 (Or.inr c2) (yI (yI g 1 1 (nI 4)) 1 2 (nI (tpl ch n i))) (((CF.T tg).F 1 _).F 2 _) (by simp [zI_yI, va_upA]) (by simp [zI_yI, va_upA])
          refine V42s  S' ?_ ?_ ?_ <;> simp (disch := omega) only [oi_l, oi_n, z_nI, nIA, nIM, nIS, nIlt, nIle, nIeq, nIC, vpI, Nat.add_sub_cancel, Nat.not_le, Nat.not_lt, Nat.not_lt_zero, Nat.le_refl, not_true_eq_false, not_false_eq_true, false_imp_iff, true_imp_iff, forall_const, implies_true, Nat.reduceEqDiff, Nat.reduceLeDiff, Nat.reduceLT, r5, c1, show ¬ tvl ch n i ≤ hi by omega] <;> first | omega | exact k'
        · have k' := k0 k2 (by omega) (by omega) g tg ct
          refine V42s  S' ?_ ?_ ?_ <;> simp (disch := omega) only [oi_l, oi_n, z_nI, nIA, nIM, nIS, nIlt, nIle, nIeq, nIC, vpI, Nat.add_sub_cancel, Nat.not_le, Nat.not_lt, Nat.not_lt_zero, Nat.le_refl, not_true_eq_false, not_false_eq_true, false_imp_iff, true_imp_iff, forall_const, implies_true, Nat.reduceEqDiff, Nat.reduceLeDiff, Nat.reduceLT, r5, c1, show tvl ch n i ≤ hi by omega] <;> first | omega | exact k')
    rw [k2] at r4
    refine V42r  S' ?_ ?_ ?_ <;> simp (disch := omega) only [oi_l, oi_n, z_nI, nIA, nIM, nIS, nIlt, nIle, nIeq, nIC, vpI, Nat.add_sub_cancel, Nat.not_le, Nat.not_lt, Nat.not_lt_zero, Nat.le_refl, not_true_eq_false, not_false_eq_true, false_imp_iff, true_imp_iff, forall_const, implies_true, Nat.reduceEqDiff, Nat.reduceLeDiff, Nat.reduceLT, r4] <;> first | omega | exact C'
  · have kb' := kb k2
    by_cases k4' : tkd ch n i = 4
    · have k' := kb' (yI (yI g 1 1 (nI 1)) 1 2 (nI (tpl ch n i))) (((CF.T tg).F 1 _).F 2 _) (by unfold cs1; rw [if_pos k4']; simp [zI_yI, va_upA]) (by simp [zI_yI, va_upA])
      refine V42r  S' ?_ ?_ ?_ <;> simp (disch := omega) only [oi_l, oi_n, z_nI, nIA, nIM, nIS, nIlt, nIle, nIeq, nIC, vpI, Nat.add_sub_cancel, Nat.not_le, Nat.not_lt, Nat.not_lt_zero, Nat.le_refl, not_true_eq_false, not_false_eq_true, false_imp_iff, true_imp_iff, forall_const, implies_true, Nat.reduceEqDiff, Nat.reduceLeDiff, Nat.reduceLT, r4, r5, k2, eq_true k4'] <;> first | omega | exact k'
    · have k' := kb' (yI (yI g 1 1 (nI 2)) 1 2 (nI (tpl ch n i))) (((CF.T tg).F 1 _).F 2 _) (by unfold cs1; rw [if_neg k4']; simp [zI_yI, va_upA]) (by simp [zI_yI, va_upA])
      refine V42r  S' ?_ ?_ ?_ <;> simp (disch := omega) only [oi_l, oi_n, z_nI, nIA, nIM, nIS, nIlt, nIle, nIeq, nIC, vpI, Nat.add_sub_cancel, Nat.not_le, Nat.not_lt, Nat.not_lt_zero, Nat.le_refl, not_true_eq_false, not_false_eq_true, false_imp_iff, true_imp_iff, forall_const, implies_true, Nat.reduceEqDiff, Nat.reduceLeDiff, Nat.reduceLT, r4, r5, k2, k4'] <;> first | omega | exact k'
theorem c41 {c : Nat} (hc : c < 256) (S : SK h) (hn : n ≤ 800) (hi' : i ≤ n) (e2 : zI h 2 2 = nI n) (e3 : zI h 2 3 = nI i) (hch : CH h 3 ch n)
    (kb : ¬ (tkd ch n i = 3 ∧ tvl ch n i = c) → ∀ g, CF h g → zI g 1 1 = nI (cs1 ch n i) → zI g 1 2 = nI (tpl ch n i) → Q (some (.int (Int32.ofInt 0))) g)
    (k0 : tkd ch n i = 3 ∧ tvl ch n i = c → ∀ g, TpS h g → CT g ch n i → Q (some (.int (Int32.ofInt 1))) g) : WP 41 0 [some (.ref 1), some (.int (nI c))] [] h Q := by
  have t4 := tk_le (ch := ch) (n := n) (i := i)
  refine V41 S (c66 S hn hi' e2 e3 hch (fun g tg r3 r4 r5 r6 => ?_))
  have S' := tg.1.SK S
  by_cases k3 : tkd ch n i = 3
  · have r6' := ct_s r6 k3
    have t3 := tk3 k3
    have vb := tv_b k3
    by_cases cv : tvl ch n i = c
    · have k' := k0 ⟨k3, cv⟩ g tg ⟨r3, r4, r5, r6⟩
      rw [k3] at r4
      refine V41r  S' ?_ ?_ ?_ ?_ ?_ ?_ <;> simp (disch := omega) only [oi_l, oi_n, z_nI, nIA, nIM, nIS, nIlt, nIle, nIeq, nIC, vpI, Nat.add_sub_cancel, Nat.not_le, Nat.not_lt, Nat.not_lt_zero, Nat.le_refl, not_true_eq_false, not_false_eq_true, false_imp_iff, true_imp_iff, forall_const, implies_true, Nat.reduceEqDiff, Nat.reduceLeDiff, Nat.reduceLT, r4, r5, r6', eq_true cv] <;> first | omega | exact k'
    · have k' := kb (fun q => cv q.2) (yI (yI g 1 1 (nI 2)) 1 2 (nI (tpl ch n i))) (((CF.T tg).F 1 _).F 2 _) (by unfold cs1; rw [if_neg (by omega)]; simp [zI_yI, va_upA]) (by simp [zI_yI, va_upA])
      rw [k3] at r4
      refine V41r  S' ?_ ?_ ?_ ?_ ?_ ?_ <;> simp (disch := omega) only [oi_l, oi_n, z_nI, nIA, nIM, nIS, nIlt, nIle, nIeq, nIC, vpI, Nat.add_sub_cancel, Nat.not_le, Nat.not_lt, Nat.not_lt_zero, Nat.le_refl, not_true_eq_false, not_false_eq_true, false_imp_iff, true_imp_iff, forall_const, implies_true, Nat.reduceEqDiff, Nat.reduceLeDiff, Nat.reduceLT, r4, r5, r6', cv] <;> first | omega | exact k'
  · have kb' := kb (fun q => k3 q.1)
    by_cases k4' : tkd ch n i = 4
    · have k' := kb' (yI (yI g 1 1 (nI 1)) 1 2 (nI (tpl ch n i))) (((CF.T tg).F 1 _).F 2 _) (by unfold cs1; rw [if_pos k4']; simp [zI_yI, va_upA]) (by simp [zI_yI, va_upA])
      refine V41r  S' ?_ ?_ ?_ ?_ ?_ ?_ <;> simp (disch := omega) only [oi_l, oi_n, z_nI, nIA, nIM, nIS, nIlt, nIle, nIeq, nIC, vpI, Nat.add_sub_cancel, Nat.not_le, Nat.not_lt, Nat.not_lt_zero, Nat.le_refl, not_true_eq_false, not_false_eq_true, false_imp_iff, true_imp_iff, forall_const, implies_true, Nat.reduceEqDiff, Nat.reduceLeDiff, Nat.reduceLT, r4, r5, k3, eq_true k4'] <;> first | omega | exact k'
    · have k' := kb' (yI (yI g 1 1 (nI 2)) 1 2 (nI (tpl ch n i))) (((CF.T tg).F 1 _).F 2 _) (by unfold cs1; rw [if_neg k4']; simp [zI_yI, va_upA]) (by simp [zI_yI, va_upA])
      refine V41r  S' ?_ ?_ ?_ ?_ ?_ ?_ <;> simp (disch := omega) only [oi_l, oi_n, z_nI, nIA, nIM, nIS, nIlt, nIle, nIeq, nIC, vpI, Nat.add_sub_cancel, Nat.not_le, Nat.not_lt, Nat.not_lt_zero, Nat.le_refl, not_true_eq_false, not_false_eq_true, false_imp_iff, true_imp_iff, forall_const, implies_true, Nat.reduceEqDiff, Nat.reduceLeDiff, Nat.reduceLT, r4, r5, k3, k4'] <;> first | omega | exact k'
theorem c40 (S : SK h) (hn : n ≤ 800) (hi' : i ≤ n) (e2 : zI h 2 2 = nI n) (e3 : zI h 2 3 = nI i) (hch : CH h 3 ch n)
    (kb : ¬ (tkd ch n i = 1 ∧ tvl ch n i < 26) → ∀ g, CF h g → zI g 1 1 = nI (cs1 ch n i) → zI g 1 2 = nI (tpl ch n i) → Q (some (.int (Int32.ofInt 0))) g)
    (k0 : tkd ch n i = 1 ∧ tvl ch n i < 26 → ∀ g, TpS h g → CT g ch n i → Q (some (.int (Int32.ofInt 1))) g) : WP 40 0 [some (.ref 1)] [] h Q := by
  have t4 := tk_le (ch := ch) (n := n) (i := i)
  refine V40 S (c66 S hn hi' e2 e3 hch (fun g tg r3 r4 r5 r6 => ?_))
  have S' := tg.1.SK S
  by_cases k1 : tkd ch n i = 1
  · have tw := tk1w k1
    have tl := tk1l k1
    by_cases cv : tvl ch n i < 26
    · have k' := k0 ⟨k1, cv⟩ g tg ⟨r3, r4, r5, r6⟩
      have l1 := tw.1.mp cv
      rw [k1] at r4
      refine V40r  S' ?_ ?_ ?_ ?_ ?_ <;> simp (disch := omega) only [oi_l, oi_n, z_nI, nIA, nIM, nIS, nIlt, nIle, nIeq, nIC, vpI, Nat.add_sub_cancel, Nat.not_le, Nat.not_lt, Nat.not_lt_zero, Nat.le_refl, not_true_eq_false, not_false_eq_true, false_imp_iff, true_imp_iff, forall_const, implies_true, Nat.reduceEqDiff, Nat.reduceLeDiff, Nat.reduceLT, r3, r4, r5, eq_true l1] <;> first | omega | exact k'
    · have k' := kb (fun q => cv q.2) (yI (yI g 1 1 (nI 2)) 1 2 (nI (tpl ch n i))) (((CF.T tg).F 1 _).F 2 _) (by unfold cs1; rw [if_neg (by omega)]; simp [zI_yI, va_upA]) (by simp [zI_yI, va_upA])
      have l1 : ¬ tnx ch n i - tpl ch n i = 1 := fun q => cv (tw.1.mpr q)
      rw [k1] at r4
      refine V40r  S' ?_ ?_ ?_ ?_ ?_ <;> simp (disch := omega) only [oi_l, oi_n, z_nI, nIA, nIM, nIS, nIlt, nIle, nIeq, nIC, vpI, Nat.add_sub_cancel, Nat.not_le, Nat.not_lt, Nat.not_lt_zero, Nat.le_refl, not_true_eq_false, not_false_eq_true, false_imp_iff, true_imp_iff, forall_const, implies_true, Nat.reduceEqDiff, Nat.reduceLeDiff, Nat.reduceLT, r3, r4, r5, l1] <;> first | omega | exact k'
  · have kb' := kb (fun q => k1 q.1)
    by_cases k4' : tkd ch n i = 4
    · have k' := kb' (yI (yI g 1 1 (nI 1)) 1 2 (nI (tpl ch n i))) (((CF.T tg).F 1 _).F 2 _) (by unfold cs1; rw [if_pos k4']; simp [zI_yI, va_upA]) (by simp [zI_yI, va_upA])
      refine V40r  S' ?_ ?_ ?_ ?_ ?_ <;> simp (disch := omega) only [oi_l, oi_n, z_nI, nIA, nIM, nIS, nIlt, nIle, nIeq, nIC, vpI, Nat.add_sub_cancel, Nat.not_le, Nat.not_lt, Nat.not_lt_zero, Nat.le_refl, not_true_eq_false, not_false_eq_true, false_imp_iff, true_imp_iff, forall_const, implies_true, Nat.reduceEqDiff, Nat.reduceLeDiff, Nat.reduceLT, r4, r5, k1, eq_true k4'] <;> first | omega | exact k'
    · have k' := kb' (yI (yI g 1 1 (nI 2)) 1 2 (nI (tpl ch n i))) (((CF.T tg).F 1 _).F 2 _) (by unfold cs1; rw [if_neg k4']; simp [zI_yI, va_upA]) (by simp [zI_yI, va_upA])
      refine V40r  S' ?_ ?_ ?_ ?_ ?_ <;> simp (disch := omega) only [oi_l, oi_n, z_nI, nIA, nIM, nIS, nIlt, nIle, nIeq, nIC, vpI, Nat.add_sub_cancel, Nat.not_le, Nat.not_lt, Nat.not_lt_zero, Nat.le_refl, not_true_eq_false, not_false_eq_true, false_imp_iff, true_imp_iff, forall_const, implies_true, Nat.reduceEqDiff, Nat.reduceLeDiff, Nat.reduceLT, r4, r5, k1, k4'] <;> first | omega | exact k'
def C5 (g : pm_H) : Prop := ∀ j, ∃ c, c < 8 ∧ zI g 5 j = nI c
def p35 (ch : Nat → Nat) (n i : Nat) (l : List Nat) : PRes :=
  if ¬ tkd ch n (tnx ch n i) = 2 then .inl (cs1 ch n (tnx ch n i), tpl ch n (tnx ch n i))
  else if tvl ch n (tnx ch n i) < 1 ∨ 200 < tvl ch n (tnx ch n i) then .inl (4, tpl ch n (tnx ch n i))
  else if 400 < l.length + tvl ch n (tnx ch n i) then .inl (7, tpl ch n i)
  else .inr (tnx ch n (tnx ch n i), addL l (tvl ch n (tnx ch n i)) (tvl ch n i))
theorem CH.keep {h g : pm_H} {ch : Nat → Nat} {n r : Nat} (c : CH h r ch n) (e : zI g r = zI h r) : CH g r ch n := fun j hj => by rw [e]; exact c j hj
theorem WV.keep {h g : pm_H} {l : List Nat} {st : Stk} (w : WV h l st) (e4 : zI g 4 = zI h 4) (e5 : zI g 5 = zI h 5) (e6 : zI g 6 = zI h 6) (e7 : zI g 7 = zI h 7) : WV g l st := by
  unfold WV; rw [e4, e5, e6, e7]; exact w
theorem c35 {l : List Nat} {st : Stk} (S : SK h) (hn : n ≤ 800) (hi' : i ≤ n) (e2 : zI h 2 2 = nI n) (ct : CT h ch n i) (k1 : tkd ch n i = 1) (k8 : tvl ch n i < 8) (hch : CH h 3 ch n) (w : WV h l st)
    (kb : ∀ k p, p35 ch n i l = .inl (k, p) → ∀ g, CR h g → C5 g → zI g 1 1 = nI k → zI g 1 2 = nI p → Q (some (.int (Int32.ofInt 0))) g)
    (k0 : ∀ j l', p35 ch n i l = .inr (j, l') → ∀ g, CR h g → zI g 1 = zI h 1 → zI g 2 3 = nI j → WV g l' st → Q (some (.int (Int32.ofInt 1))) g) : WP 35 0 [some (.ref 1), none, none] [] h Q := by
  obtain ⟨r3, r4, r5, r6⟩ := ct
  have r6' := ct_l r6 k1 (by omega)
  have nb := tnx_b (ch := ch) hi'
  have pb := tpl_b (ch := ch) hi'
  have tl := tk1l k1
  have C5h : C5 h := w.2.1
  have B' : WP 42 0 [some (.ref 1), some (.int (nI 1)), some (.int (nI 200)), none] [] h (fun v1 h1 => WP 35 24 [some (.ref 1), some (.int (nI (tvl ch n i))), some (.int (nI (tpl ch n i)))] (v1.toList ++ []) h1 Q) := by
    refine c42 (lo := 1) (hi := 200) S hn nb.2.1 (by omega) (by omega) e2 r3 hch (fun q g cg f1 f2 => ?_) (fun q1 q2 g cg f1 f2 => ?_) (fun q1 q2 q3 g tg ct2 => ?_)
    · have k' := kb _ _ (by unfold p35; rw [if_pos q]) g cg.C (by unfold C5; rw [cg.1.1 5 (by decide)]; exact C5h) f1 f2
      refine V35r  (cg.1.SK S) ?_ ?_ <;> simp (disch := omega) only [oi_l, oi_n, z_nI, nIA, nIM, nIS, nIlt, nIle, nIeq, nIC, vpI, Nat.add_sub_cancel, Nat.not_le, Nat.not_lt, Nat.not_lt_zero, Nat.le_refl, not_true_eq_false, not_false_eq_true, false_imp_iff, true_imp_iff, forall_const, implies_true, Nat.reduceEqDiff, Nat.reduceLeDiff, Nat.reduceLT] <;> first | omega | exact k'
    · have k' := kb _ _ (by unfold p35; rw [if_neg (by omega), if_pos (by omega)]) g cg.C (by unfold C5; rw [cg.1.1 5 (by decide)]; exact C5h) f1 f2
      refine V35r  (cg.1.SK S) ?_ ?_ <;> simp (disch := omega) only [oi_l, oi_n, z_nI, nIA, nIM, nIS, nIlt, nIle, nIeq, nIC, vpI, Nat.add_sub_cancel, Nat.not_le, Nat.not_lt, Nat.not_lt_zero, Nat.le_refl, not_true_eq_false, not_false_eq_true, false_imp_iff, true_imp_iff, forall_const, implies_true, Nat.reduceEqDiff, Nat.reduceLeDiff, Nat.reduceLT] <;> first | omega | exact k'
    · obtain ⟨s3, s4, s5, s6⟩ := id ct2
      have wg : WV g l st := w.keep (tg.1.1 4 (by decide)) (tg.1.1 5 (by decide)) (tg.1.1 6 (by decide)) (tg.1.1 7 (by decide))
      have C' : WP 79 0 [some (.ref 4), some (.int (nI (tvl ch n i))), some (.int (nI (tvl ch n (tnx ch n i)))), none] [] g (fun v1 h1 => WP 35 44 [some (.ref 1), some (.int (nI (tvl ch n i))), some (.int (nI (tpl ch n i)))] (v1.toList ++ []) h1 Q) := c79 (tg.1.SK S) wg k8 (by omega) (fun big => by
          have k' := kb _ _ (by unfold p35; rw [if_neg (by omega), if_neg (by omega), if_pos big]) (yI (yI g 1 1 (nI 7)) 1 2 (nI (tpl ch n i))) (((CR.T tg).F 1 _).F 2 _) (by unfold C5; simp only [zI_yI, Nat.reduceEqDiff, if_false]; rw [tg.1.1 5 (by decide)]; exact C5h) (by simp [zI_yI, va_upA]) (by simp [zI_yI, va_upA])
          refine V35s  (tg.1.SK S) ?_ ?_ <;> simp (disch := omega) only [oi_l, oi_n, z_nI, nIA, nIM, nIS, nIlt, nIle, nIeq, nIC, vpI, Nat.add_sub_cancel, Nat.not_le, Nat.not_lt, Nat.not_lt_zero, Nat.le_refl, not_true_eq_false, not_false_eq_true, false_imp_iff, true_imp_iff, forall_const, implies_true, Nat.reduceEqDiff, Nat.reduceLeDiff, Nat.reduceLT] <;> first | omega | exact k') (fun small g2 s2 w2 => by
          have k' := k0 _ _ (by unfold p35; rw [if_neg (by omega), if_neg (by omega), if_neg (by omega)]) g2 ((CR.T tg).tr (CR.W s2 (by decide))) (by rw [s2.1 1 (by decide), tg.1.1 1 (by decide)]) (by rw [s2.1 2 (by decide)]; exact s3) w2
          refine V35s  (s2.SK (tg.1.SK S)) ?_ ?_ <;> simp (disch := omega) only [oi_l, oi_n, z_nI, nIA, nIM, nIS, nIlt, nIle, nIeq, nIC, vpI, Nat.add_sub_cancel, Nat.not_le, Nat.not_lt, Nat.not_lt_zero, Nat.le_refl, not_true_eq_false, not_false_eq_true, false_imp_iff, true_imp_iff, forall_const, implies_true, Nat.reduceEqDiff, Nat.reduceLeDiff, Nat.reduceLT] <;> first | omega | exact k')
      have D' : WP 69 0 [some (.ref 2), none, none] [] g (fun v1 h1 => WP 35 41 [some (.ref 1), some (.int (nI (tvl ch n i))), some (.int (nI (tpl ch n i)))] (v1.toList ++ [.int (nI (tvl ch n i)), .ref 4]) h1 Q) := c69t (tg.1.SK S) hn q1 ct2 (by
        exact V35t (tg.1.SK S) C')
      refine V35r  (tg.1.SK S) ?_ ?_ <;> simp (disch := omega) only [oi_l, oi_n, z_nI, nIA, nIM, nIS, nIlt, nIle, nIeq, nIC, vpI, Nat.add_sub_cancel, Nat.not_le, Nat.not_lt, Nat.not_lt_zero, Nat.le_refl, not_true_eq_false, not_false_eq_true, false_imp_iff, true_imp_iff, forall_const, implies_true, Nat.reduceEqDiff, Nat.reduceLeDiff, Nat.reduceLT] <;> first | omega | exact D'
  rw [k1] at r4
  refine V35  S ?_ ?_ ?_ <;> simp (disch := omega) only [oi_l, oi_n, z_nI, nIA, nIM, nIS, nIlt, nIle, nIeq, nIC, vpI, Nat.add_sub_cancel, Nat.not_le, Nat.not_lt, Nat.not_lt_zero, Nat.le_refl, not_true_eq_false, not_false_eq_true, false_imp_iff, true_imp_iff, forall_const, implies_true, Nat.reduceEqDiff, Nat.reduceLeDiff, Nat.reduceLT, r4, r5, r6'] <;> first | omega | exact B'
def p36 (ch : Nat → Nat) (n i : Nat) (st : Stk) : Option (Nat × Nat) :=
  if tkd ch n i = 2 ∧ (tvl ch n i < 2 ∨ 50 < tvl ch n i) then some (4, tpl ch n i)
  else if ¬ (tkd ch n (tnx ch n i) = 3 ∧ tvl ch n (tnx ch n i) = 40) then some (cs1 ch n (tnx ch n i), tpl ch n (tnx ch n i))
  else if 8 ≤ st.length then some (3, tpl ch n (tnx ch n i))
  else none
theorem c36 {l : List Nat} {st : Stk} (S : SK h) (hn : n ≤ 800) (hi' : i ≤ n) (e2 : zI h 2 2 = nI n) (ct : CT h ch n i) (k1 : tkd ch n i = 2 ∨ (tkd ch n i = 1 ∧ tvl ch n i = 28)) (hch : CH h 3 ch n) (w : WV h l st)
    (kb : ∀ k p, p36 ch n i st = some (k, p) → ∀ g, CR h g → C5 g → zI g 1 1 = nI k → zI g 1 2 = nI p → Q (some (.int (Int32.ofInt 0))) g)
    (k0 : p36 ch n i st = none → ∀ g, CR h g → zI g 1 = zI h 1 → zI g 2 3 = nI (tnx ch n (tnx ch n i)) → WV g l ((l.length, if tkd ch n i = 2 then tvl ch n i else 0) :: st) → Q (some (.int (Int32.ofInt 1))) g) : WP 36 0 [some (.ref 1), none] [] h Q := by
  obtain ⟨r3, r4, r5, r6⟩ := id ct
  have nb := tnx_b (ch := ch) hi'
  have pb := tpl_b (ch := ch) hi'
  have C5h : C5 h := w.2.1
  have t4 := tk_le (ch := ch) (n := n) (i := i)
  have nb2 := tnx_b (ch := ch) nb.2.1
  have pb2 := tpl_b (ch := ch) nb.2.1
  -- behind the first token
  have A : ¬ (tkd ch n i = 2 ∧ (tvl ch n i < 2 ∨ 50 < tvl ch n i)) → ∀ t, t = (if tkd ch n i = 2 then tvl ch n i else 0) → WP 41 0 [some (.ref 1), some (.int (nI 40))] [] h (fun v1 h1 => WP 36 44 [some (.ref 1), some (.int (nI t))] (v1.toList ++ []) h1 Q) := by
    intro no t et
    have tb : t ≤ 50 := by rw [et]; split <;> omega
    refine c41 (c := 40) (by decide) S hn nb.2.1 e2 r3 hch (fun q g cg f1 f2 => ?_) (fun q g tg ct2 => ?_)
    · have k' := kb _ _ (by unfold p36; rw [if_neg no, if_pos q]) g cg.C (by unfold C5; rw [cg.1.1 5 (by decide)]; exact C5h) f1 f2
      refine V36r  (cg.1.SK S) ?_ ?_ <;> simp (disch := omega) only [oi_l, oi_n, z_nI, nIA, nIM, nIS, nIlt, nIle, nIeq, nIC, vpI, Nat.add_sub_cancel, Nat.not_le, Nat.not_lt, Nat.not_lt_zero, Nat.le_refl, not_true_eq_false, not_false_eq_true, false_imp_iff, true_imp_iff, forall_const, implies_true, Nat.reduceEqDiff, Nat.reduceLeDiff, Nat.reduceLT] <;> first | omega | exact k'
    · obtain ⟨s3, s4, s5, s6⟩ := ct2
      have wg : WV g l st := w.keep (tg.1.1 4 (by decide)) (tg.1.1 5 (by decide)) (tg.1.1 6 (by decide)) (tg.1.1 7 (by decide))
      have C' : WP 80 0 [some (.ref 4), some (.int (nI t))] [] g (fun v1 h1 => WP 36 57 [some (.ref 1), some (.int (nI t))] (v1.toList ++ []) h1 Q) := c80 (tg.1.SK S) wg tb (fun big => by
          have k' := kb _ _ (by unfold p36; rw [if_neg no, if_neg (fun z => z q), if_pos big]) (yI (yI g 1 1 (nI 3)) 1 2 (nI (tpl ch n (tnx ch n i)))) (((CR.T tg).F 1 _).F 2 _) (by unfold C5; simp only [zI_yI, Nat.reduceEqDiff, if_false]; rw [tg.1.1 5 (by decide)]; exact C5h) (by simp [zI_yI, va_upA]) (by simp [zI_yI, va_upA])
          refine V36s  (tg.1.SK S) ?_ ?_ <;> simp (disch := omega) only [oi_l, oi_n, z_nI, nIA, nIM, nIS, nIlt, nIle, nIeq, nIC, vpI, Nat.add_sub_cancel, Nat.not_le, Nat.not_lt, Nat.not_lt_zero, Nat.le_refl, not_true_eq_false, not_false_eq_true, false_imp_iff, true_imp_iff, forall_const, implies_true, Nat.reduceEqDiff, Nat.reduceLeDiff, Nat.reduceLT, s5] <;> first | omega | exact k') (fun small g2 s2 w2 => by
          rw [et] at w2
          have k' := k0 (by unfold p36; rw [if_neg no, if_neg (fun z => z q), if_neg (by omega)]) g2 ((CR.T tg).tr (CR.W s2 (by decide))) (by rw [s2.1 1 (by decide), tg.1.1 1 (by decide)]) (by rw [s2.1 2 (by decide)]; exact s3) w2
          refine V36s  (s2.SK (tg.1.SK S)) ?_ ?_ <;> simp (disch := omega) only [oi_l, oi_n, z_nI, nIA, nIM, nIS, nIlt, nIle, nIeq, nIC, vpI, Nat.add_sub_cancel, Nat.not_le, Nat.not_lt, Nat.not_lt_zero, Nat.le_refl, not_true_eq_false, not_false_eq_true, false_imp_iff, true_imp_iff, forall_const, implies_true, Nat.reduceEqDiff, Nat.reduceLeDiff, Nat.reduceLT] <;> first | omega | exact k')
      refine V36r  (tg.1.SK S) ?_ ?_ <;> simp (disch := omega) only [oi_l, oi_n, z_nI, nIA, nIM, nIS, nIlt, nIle, nIeq, nIC, vpI, Nat.add_sub_cancel, Nat.not_le, Nat.not_lt, Nat.not_lt_zero, Nat.le_refl, not_true_eq_false, not_false_eq_true, false_imp_iff, true_imp_iff, forall_const, implies_true, Nat.reduceEqDiff, Nat.reduceLeDiff, Nat.reduceLT] <;> first | omega | exact C'
  by_cases k2 : tkd ch n i = 2
  · have vb := tk2 hn k2
    have D' : WP 69 0 [some (.ref 2), none, none] [] h (fun v1 h1 => WP 36 20 [some (.ref 1), some (.int (nI 0))] (v1.toList ++ []) h1 Q) := c69t S hn k2 ct (by
      by_cases bad : tvl ch n i < 2 ∨ 50 < tvl ch n i
      · have k' := kb _ _ (by unfold p36; rw [if_pos ⟨k2, bad⟩]) (yI (yI h 1 1 (nI 4)) 1 2 (nI (tpl ch n i))) ((CR.rf.F 1 _).F 2 _) (by unfold C5; simp only [zI_yI, Nat.reduceEqDiff, if_false]; exact C5h) (by simp [zI_yI, va_upA]) (by simp [zI_yI, va_upA])
        by_cases b1 : tvl ch n i < 2
        · refine V36t  S ?_ ?_ ?_ <;> simp (disch := omega) only [oi_l, oi_n, z_nI, nIA, nIM, nIS, nIlt, nIle, nIeq, nIC, vpI, Nat.add_sub_cancel, Nat.not_le, Nat.not_lt, Nat.not_lt_zero, Nat.le_refl, not_true_eq_false, not_false_eq_true, false_imp_iff, true_imp_iff, forall_const, implies_true, Nat.reduceEqDiff, Nat.reduceLeDiff, Nat.reduceLT, r5, b1] <;> first | omega | exact k'
        · refine V36t  S ?_ ?_ ?_ <;> simp (disch := omega) only [oi_l, oi_n, z_nI, nIA, nIM, nIS, nIlt, nIle, nIeq, nIC, vpI, Nat.add_sub_cancel, Nat.not_le, Nat.not_lt, Nat.not_lt_zero, Nat.le_refl, not_true_eq_false, not_false_eq_true, false_imp_iff, true_imp_iff, forall_const, implies_true, Nat.reduceEqDiff, Nat.reduceLeDiff, Nat.reduceLT, r5, b1, show ¬ tvl ch n i ≤ 50 by omega] <;> first | omega | exact k'
      · have A' := A (fun q => bad q.2) (tvl ch n i) (by rw [if_pos k2])
        refine V36t  S ?_ ?_ ?_ <;> simp (disch := omega) only [oi_l, oi_n, z_nI, nIA, nIM, nIS, nIlt, nIle, nIeq, nIC, vpI, Nat.add_sub_cancel, Nat.not_le, Nat.not_lt, Nat.not_lt_zero, Nat.le_refl, not_true_eq_false, not_false_eq_true, false_imp_iff, true_imp_iff, forall_const, implies_true, Nat.reduceEqDiff, Nat.reduceLeDiff, Nat.reduceLT, r5, show ¬ tvl ch n i < 2 by omega, show tvl ch n i ≤ 50 by omega] <;> first | omega | exact A')
    rw [k2] at r4
    refine V36  S ?_ ?_ <;> simp (disch := omega) only [oi_l, oi_n, z_nI, nIA, nIM, nIS, nIlt, nIle, nIeq, nIC, vpI, Nat.add_sub_cancel, Nat.not_le, Nat.not_lt, Nat.not_lt_zero, Nat.le_refl, not_true_eq_false, not_false_eq_true, false_imp_iff, true_imp_iff, forall_const, implies_true, Nat.reduceEqDiff, Nat.reduceLeDiff, Nat.reduceLT, r4] <;> first | omega | exact D'
  · have A' := A (fun q => k2 q.1) 0 (by rw [if_neg k2])
    refine V36  S ?_ ?_ <;> simp (disch := omega) only [oi_l, oi_n, z_nI, nIA, nIM, nIS, nIlt, nIle, nIeq, nIC, vpI, Nat.add_sub_cancel, Nat.not_le, Nat.not_lt, Nat.not_lt_zero, Nat.le_refl, not_true_eq_false, not_false_eq_true, false_imp_iff, true_imp_iff, forall_const, implies_true, Nat.reduceEqDiff, Nat.reduceLeDiff, Nat.reduceLT, r4, r5, k2] <;> first | omega | exact A'
end RDC

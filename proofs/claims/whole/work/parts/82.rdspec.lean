/-! reading a text: what both do -/
def nmS (S : List BkS) (k : Nat) : Nat := (S.getD k (0, [])).1
def nmC (C : List BkC) (k : Nat) : Nat := (C.getD k (0, [])).1
/-- the last of the first m names that is v -/
def fnd (f : Nat → Nat) (v : Nat) : Nat → Option Nat
  | 0 => none
  | m + 1 => if f m = v then some m else fnd f v m
theorem fnd_n {f : Nat → Nat} {v : Nat} : ∀ m, fnd f v m = none ↔ ∀ k, k < m → ¬ f k = v
  | 0 => ⟨fun _ k hk => absurd hk (Nat.not_lt_zero _), fun _ => rfl⟩
  | m + 1 => by
    rw [fnd]
    by_cases e : f m = v
    · rw [if_pos e]
      exact ⟨fun q => (by cases q), fun q => absurd e (q m (Nat.lt_succ_self _))⟩
    · rw [if_neg e, fnd_n m]
      constructor
      · intro q k hk
        by_cases ek : k = m
        · rw [ek]; exact e
        · exact q k (by omega)
      · exact fun q k hk => q k (by omega)
theorem fnd_s {f : Nat → Nat} {v s : Nat} : ∀ m, fnd f v m = some s → s < m ∧ f s = v
  | 0, h => by cases h
  | m + 1, h => by
    rw [fnd] at h
    by_cases e : f m = v
    · rw [if_pos e] at h
      injection h with h
      rw [← h]; exact ⟨Nat.lt_succ_self _, e⟩
    · rw [if_neg e] at h
      have := fnd_s m h
      exact ⟨by omega, this.2⟩
/-- all names are different -/
def dif (f : Nat → Nat) (m : Nat) : Prop := ∀ i j, i < m → j < m → f i = f j → i = j
theorem fnd_d {f : Nat → Nat} {v k m : Nat} (d : dif f m) (hk : k < m) (e : f k = v) : fnd f v m = some k := by
  cases h : fnd f v m with
  | none => exact absurd e ((fnd_n m).mp h k hk)
  | some s =>
    have := fnd_s m h
    rw [d s k this.1 hk (this.2.trans e.symm)]
abbrev Flt : Type := Nat × Nat
section RDS
variable (ch : Nat → Nat) (n : Nat)
abbrev isN (i : Nat) : Prop := tkd ch n i = 1 ∧ tvl ch n i < 26
abbrev isT (i : Nat) : Prop := tkd ch n i = 1 ∧ tvl ch n i = 28
abbrev isg (c i : Nat) : Prop := tkd ch n i = 3 ∧ tvl ch n i = c
abbrev wrg (i : Nat) : Flt := (cs1 ch n i, tpl ch n i)
def rdS (S : List BkS) (i i1 i2 : Nat) : Flt ⊕ (Nat × BkS) :=
  if 12 ≤ S.length then .inl (3, tpl ch n i)
  else if ¬ isN ch n i1 then .inl (wrg ch n i1)
  else if ¬ fnd (nmS S) (tvl ch n i1) S.length = none then .inl (5, tpl ch n i1)
  else if ¬ isg ch n 58 i2 then .inl (wrg ch n i2)
  else match pcs ch n (n + 1) (tnx ch n i2) [] [] false with
    | .inl f => .inl f
    | .inr (j, l) => .inr (j, (tvl ch n i1, l))
/-- a part, of which the first token lies at i, its name at j, and k behind that -/
def prp (S : List BkS) (t : Bool) (j k : Nat) : Flt ⊕ (Nat × BkP) :=
  if ¬ isN ch n j then .inl (wrg ch n j)
  else match fnd (nmS S) (tvl ch n j) S.length with
    | none => .inl (6, tpl ch n j)
    | some s =>
      if isg ch n 43 k then
        (if ¬ tkd ch n (tnx ch n k) = 2 then .inl (wrg ch n (tnx ch n k))
         else if 50 < tvl ch n (tnx ch n k) then .inl (4, tpl ch n (tnx ch n k))
         else .inr (tnx ch n (tnx ch n k), (s, tvl ch n (tnx ch n k), t)))
      else .inr (k, (s, 0, t))
def jt (i : Nat) : Nat := if isT ch n i then tnx ch n i else i
def prt (S : List BkS) : Nat → Nat → List BkP → Flt ⊕ (Nat × List BkP)
  | 0, _, _ => .inl (0, 0)
  | f + 1, i, ps =>
    if ¬ (isN ch n i ∨ isT ch n i) then .inl (wrg ch n i)
    else if 12 ≤ ps.length then .inl (3, tpl ch n i)
    else match prp ch n S (decide (isT ch n i)) (jt ch n i) (tnx ch n (jt ch n i)) with
      | .inl e => .inl e
      | .inr (m, p) => if isg ch n 59 m then .inr (tnx ch n m, ps ++ [p]) else if isg ch n 44 m then prt S f (tnx ch n m) (ps ++ [p]) else .inl (wrg ch n m)
def rdC (S : List BkS) (C : List BkC) (i i1 i2 : Nat) : Flt ⊕ (Nat × BkC) :=
  if 6 ≤ C.length then .inl (3, tpl ch n i)
  else if ¬ isN ch n i1 then .inl (wrg ch n i1)
  else if ¬ fnd (nmC C) (tvl ch n i1) C.length = none then .inl (5, tpl ch n i1)
  else if ¬ isg ch n 58 i2 then .inl (wrg ch n i2)
  else match prt ch n S (n + 1) (tnx ch n i2) [] with
    | .inl f => .inl f
    | .inr (j, ps) => .inr (j, (tvl ch n i1, ps))
def rdB : Nat → Nat → List BkS → List BkC → Flt ⊕ (List BkS × List BkC)
  | 0, _, _, _ => .inl (0, 0)
  | f + 1, i, S, C =>
    if tkd ch n i = 0 then .inr (S, C)
    else if (tkd ch n i = 1 ∧ tvl ch n i = 26) ∧ C.length = 0 then
      (match rdS ch n S i (tnx ch n i) (tnx ch n (tnx ch n i)) with
        | .inl e => .inl e
        | .inr (j, s) => rdB f j (S ++ [s]) C)
    else if tkd ch n i = 1 ∧ tvl ch n i = 27 then
      (match rdC ch n S C i (tnx ch n i) (tnx ch n (tnx ch n i)) with
        | .inl e => .inl e
        | .inr (j, c) => rdB f j S (C ++ [c]))
    else .inl (wrg ch n i)
end RDS
section RDF
variable {ch : Nat → Nat} {n : Nat}
theorem cs1_b {i : Nat} : 1 ≤ cs1 ch n i ∧ cs1 ch n i ≤ 2 := by unfold cs1; split <;> omega
theorem cls_l {l : List Nat} {a t : Nat} : l.length ≤ (clsL l a t).length := by
  unfold clsL
  by_cases t0 : t = 0
  · rw [if_pos t0]; unfold revL; rw [mkL_len]; exact Nat.le_refl _
  · rw [if_neg t0]; unfold repL; rw [mkL_len]
    have : l.length - a ≤ (l.length - a) * t := Nat.le_mul_of_pos_right _ (by omega)
    omega
theorem p35_r {i j : Nat} {l l' : List Nat} (e : p35 ch n i l = .inr (j, l')) : tkd ch n (tnx ch n i) = 2 ∧ 1 ≤ tvl ch n (tnx ch n i) ∧ j = tnx ch n (tnx ch n i) ∧ l' = addL l (tvl ch n (tnx ch n i)) (tvl ch n i) := by
  unfold p35 at e
  by_cases a1 : ¬ tkd ch n (tnx ch n i) = 2
  · rw [if_pos a1] at e; cases e
  · rw [if_neg a1] at e
    by_cases a2 : tvl ch n (tnx ch n i) < 1 ∨ 200 < tvl ch n (tnx ch n i)
    · rw [if_pos a2] at e; cases e
    · rw [if_neg a2] at e
      by_cases a3 : 400 < l.length + tvl ch n (tnx ch n i)
      · rw [if_pos a3] at e; cases e
      · rw [if_neg a3] at e
        injection e with e
        injection e with e1 e2
        exact ⟨by omega, by omega, e1.symm, e2.symm⟩
theorem pcs_ok : ∀ f i l st has j l', i ≤ n → (has = true → 1 ≤ l.length) → pcs ch n f i l st has = .inr (j, l') → i < j ∧ j ≤ n ∧ 1 ≤ l'.length := by
  intro f
  induction f with
  | zero => intro i l st has j l' _ _ e; rw [pcs] at e; cases e
  | succ f ih =>
    intro i l st has j l' hi hh e
    have nb := tnx_b (ch := ch) hi
    have pb := tpl_b (ch := ch) hi
    have nb2 := tnx_b (ch := ch) nb.2.1
    have pb2 := tpl_b (ch := ch) nb.2.1
    by_cases cA : tkd ch n i = 1 ∧ tvl ch n i < 8
    · rw [pcs_A cA] at e
      cases q : p35 ch n i l with
      | inl x => obtain ⟨a, b⟩ := x; rw [q] at e; cases e
      | inr x =>
        obtain ⟨a, b⟩ := x
        rw [q] at e
        obtain ⟨r1, r2, r3, r4⟩ := p35_r q
        have := nb.2.2 (by omega)
        have I' := ih a b st true j l' (by omega) (fun _ => by rw [r4]; unfold addL; rw [mkL_len]; omega) e
        omega
    · by_cases cB : tkd ch n i = 2 ∨ (tkd ch n i = 1 ∧ tvl ch n i = 28)
      · rw [pcs_B cA cB] at e
        cases q : p36 ch n i st with
        | some x => obtain ⟨a, b⟩ := x; rw [q] at e; cases e
        | none =>
          rw [q] at e
          have := nb.2.2 (by omega)
          have I' := ih _ _ _ false j l' (by omega) (fun q => by cases q) e
          omega
      · rw [pcs_C cA cB] at e
        cases st with
        | nil =>
          simp only at e
          by_cases c : (tkd ch n i = 3 ∧ tvl ch n i = 59) ∧ has = true
          · rw [if_pos c] at e
            injection e with e
            injection e with e1 e2
            have := nb.2.2 (by omega)
            rw [← e1, ← e2]
            exact ⟨by omega, by omega, hh c.2⟩
          · rw [if_neg c] at e; cases e
        | cons x st' =>
          obtain ⟨a, t⟩ := x
          simp only at e
          by_cases c : (tkd ch n i = 3 ∧ tvl ch n i = 41) ∧ has = true
          · rw [if_pos c] at e
            by_cases big : t ≠ 0 ∧ 400 < a + (l.length - a) * t
            · rw [if_pos big] at e; cases e
            · rw [if_neg big] at e
              have := nb.2.2 (by omega)
              have I' := ih _ _ _ true j l' (by omega) (fun _ => Nat.le_trans (hh c.2) cls_l) e
              omega
          · rw [if_neg c] at e; cases e
theorem rdS_ok {S : List BkS} {i j : Nat} {s : BkS} (hi : i ≤ n) (hk : tkd ch n i ≠ 0) (e : rdS ch n S i (tnx ch n i) (tnx ch n (tnx ch n i)) = .inr (j, s)) : i < j ∧ j ≤ n ∧ s.1 < 26 ∧ 1 ≤ s.2.length ∧ S.length < 12 ∧ ∀ k, k < S.length → ¬ nmS S k = s.1 := by
  have nb := tnx_b (ch := ch) hi
  have pb := tpl_b (ch := ch) hi
  have nb2 := tnx_b (ch := ch) nb.2.1
  have pb2 := tpl_b (ch := ch) nb.2.1
  have nb3 := tnx_b (ch := ch) nb2.2.1
  have pb3 := tpl_b (ch := ch) nb2.2.1
  have := nb.2.2 hk
  unfold rdS at e
  by_cases a1 : 12 ≤ S.length
  · rw [if_pos a1] at e; cases e
  rw [if_neg a1] at e
  by_cases a2 : ¬ isN ch n (tnx ch n i)
  · rw [if_pos a2] at e; cases e
  rw [if_neg a2] at e
  by_cases a3 : ¬ fnd (nmS S) (tvl ch n (tnx ch n i)) S.length = none
  · rw [if_pos a3] at e; cases e
  rw [if_neg a3] at e
  by_cases a4 : ¬ isg ch n 58 (tnx ch n (tnx ch n i))
  · rw [if_pos a4] at e; cases e
  rw [if_neg a4] at e
  cases q : pcs ch n (n + 1) (tnx ch n (tnx ch n (tnx ch n i))) [] [] false with
  | inl x => rw [q] at e; cases e
  | inr x =>
    obtain ⟨a, b⟩ := x
    rw [q] at e
    injection e with e
    injection e with e1 e2
    have I' := pcs_ok _ _ _ _ _ _ _ nb3.2.1 (fun q => by cases q) q
    rw [← e1, ← e2]
    exact ⟨by omega, by omega, by have := Decidable.not_not.mp a2; exact this.2, I'.2.2, by omega, (fnd_n _).mp (Decidable.not_not.mp a3)⟩
theorem prp_ok {S : List BkS} {t : Bool} {j k m : Nat} {p : BkP} (hk : k ≤ n) (e : prp ch n S t j k = .inr (m, p)) : k ≤ m ∧ m ≤ n ∧ p.1 < S.length ∧ p.2.1 ≤ 50 ∧ isN ch n j := by
  have nb := tnx_b (ch := ch) hk
  have pb := tpl_b (ch := ch) hk
  have nb2 := tnx_b (ch := ch) nb.2.1
  have pb2 := tpl_b (ch := ch) nb.2.1
  unfold prp at e
  by_cases a1 : ¬ isN ch n j
  · rw [if_pos a1] at e; cases e
  rw [if_neg a1] at e
  cases q : fnd (nmS S) (tvl ch n j) S.length with
  | none => rw [q] at e; cases e
  | some s =>
    rw [q] at e
    simp only at e
    have sb := (fnd_s _ q).1
    by_cases a2 : isg ch n 43 k
    · rw [if_pos a2] at e
      by_cases a3 : ¬ tkd ch n (tnx ch n k) = 2
      · rw [if_pos a3] at e; cases e
      rw [if_neg a3] at e
      by_cases a4 : 50 < tvl ch n (tnx ch n k)
      · rw [if_pos a4] at e; cases e
      rw [if_neg a4] at e
      injection e with e
      injection e with e1 e2
      rw [← e1, ← e2]
      exact ⟨by omega, by omega, sb, by show tvl ch n (tnx ch n k) ≤ 50; omega, Decidable.not_not.mp a1⟩
    · rw [if_neg a2] at e
      injection e with e
      injection e with e1 e2
      rw [← e1, ← e2]
      exact ⟨Nat.le_refl _, hk, sb, Nat.zero_le _, Decidable.not_not.mp a1⟩
theorem jt_b {i : Nat} (hi : i ≤ n) : i ≤ jt ch n i ∧ jt ch n i ≤ n := by
  have nb := tnx_b (ch := ch) hi
  have pb := tpl_b (ch := ch) hi
  unfold jt
  split <;> omega
theorem prt_ok {S : List BkS} : ∀ f i ps j ps', i ≤ n → ps.length ≤ 12 → (∀ p ∈ ps, p.1 < S.length ∧ p.2.1 ≤ 50) → prt ch n S f i ps = .inr (j, ps') → i < j ∧ j ≤ n ∧ 1 ≤ ps'.length ∧ ps'.length ≤ 12 ∧ ∀ p ∈ ps', p.1 < S.length ∧ p.2.1 ≤ 50 := by
  intro f
  induction f with
  | zero => intro i ps j ps' _ _ _ e; rw [prt] at e; cases e
  | succ f ih =>
    intro i ps j ps' hi hp hq e
    have jb := jt_b (ch := ch) hi
    have nb := tnx_b (ch := ch) jb.2
    have pb := tpl_b (ch := ch) jb.2
    rw [prt] at e
    by_cases a1 : ¬ (isN ch n i ∨ isT ch n i)
    · rw [if_pos a1] at e; cases e
    rw [if_neg a1] at e
    by_cases a2 : 12 ≤ ps.length
    · rw [if_pos a2] at e; cases e
    rw [if_neg a2] at e
    cases q : prp ch n S (decide (isT ch n i)) (jt ch n i) (tnx ch n (jt ch n i)) with
    | inl x => rw [q] at e; cases e
    | inr x =>
      obtain ⟨m, p⟩ := x
      rw [q] at e
      simp only at e
      obtain ⟨r1, r2, r3, r4, r5⟩ := prp_ok nb.2.1 q
      have nbm := tnx_b (ch := ch) r2
      have pbm := tpl_b (ch := ch) r2
      have := nb.2.2 (by rw [r5.1]; decide)
      have hq' : ∀ p' ∈ ps ++ [p], p'.1 < S.length ∧ p'.2.1 ≤ 50 := fun p' h' => by
        rcases List.mem_append.mp h' with h' | h'
        · exact hq p' h'
        · rw [List.mem_singleton.mp h']; exact ⟨r3, r4⟩
      by_cases a3 : isg ch n 59 m
      · rw [if_pos a3] at e
        injection e with e
        injection e with e1 e2
        rw [← e1, ← e2]
        exact ⟨by omega, nbm.2.1, by simp, by simp; omega, hq'⟩
      · rw [if_neg a3] at e
        by_cases a4 : isg ch n 44 m
        · rw [if_pos a4] at e
          have I' := ih _ _ _ _ nbm.2.1 (by simp; omega) hq' e
          exact ⟨by omega, I'.2⟩
        · rw [if_neg a4] at e; cases e
theorem rdC_ok {S : List BkS} {C : List BkC} {i j : Nat} {c : BkC} (hi : i ≤ n) (hk : tkd ch n i ≠ 0) (e : rdC ch n S C i (tnx ch n i) (tnx ch n (tnx ch n i)) = .inr (j, c)) : i < j ∧ j ≤ n ∧ (c.1 < 26 ∧ 1 ≤ c.2.length ∧ c.2.length ≤ 12 ∧ ∀ p ∈ c.2, p.1 < S.length ∧ p.2.1 ≤ 50) ∧ C.length < 6 ∧ ∀ k, k < C.length → ¬ nmC C k = c.1 := by
  have nb := tnx_b (ch := ch) hi
  have pb := tpl_b (ch := ch) hi
  have nb2 := tnx_b (ch := ch) nb.2.1
  have pb2 := tpl_b (ch := ch) nb.2.1
  have nb3 := tnx_b (ch := ch) nb2.2.1
  have pb3 := tpl_b (ch := ch) nb2.2.1
  have := nb.2.2 hk
  unfold rdC at e
  by_cases a1 : 6 ≤ C.length
  · rw [if_pos a1] at e; cases e
  rw [if_neg a1] at e
  by_cases a2 : ¬ isN ch n (tnx ch n i)
  · rw [if_pos a2] at e; cases e
  rw [if_neg a2] at e
  by_cases a3 : ¬ fnd (nmC C) (tvl ch n (tnx ch n i)) C.length = none
  · rw [if_pos a3] at e; cases e
  rw [if_neg a3] at e
  by_cases a4 : ¬ isg ch n 58 (tnx ch n (tnx ch n i))
  · rw [if_pos a4] at e; cases e
  rw [if_neg a4] at e
  cases q : prt ch n S (n + 1) (tnx ch n (tnx ch n (tnx ch n i))) [] with
  | inl x => rw [q] at e; cases e
  | inr x =>
    obtain ⟨a, b⟩ := x
    rw [q] at e
    injection e with e
    injection e with e1 e2
    have I' := prt_ok _ _ _ _ _ nb3.2.1 (Nat.zero_le _) (fun p hp => absurd hp List.not_mem_nil) q
    rw [← e1, ← e2]
    exact ⟨by omega, by omega, ⟨(Decidable.not_not.mp a2).2, I'.2.2⟩, by omega, (fnd_n _).mp (Decidable.not_not.mp a3)⟩
end RDF

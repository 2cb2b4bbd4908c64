/-! BEST DYEING: the cost of a dyeing -/
def nz (f : Nat → Nat) : Nat → Nat
  | 0 => 0
  | j + 1 => nz f j + if 0 < f j then 1 else 0
theorem nz_cg {f g : Nat → Nat} : ∀ {j : Nat}, (∀ l, l < j → f l = g l) → nz f j = nz g j
  | 0, _ => rfl
  | j + 1, h => by rw [nz, nz, nz_cg (fun l hl => h l (by omega)), h j (by omega)]
theorem nz_le (f : Nat → Nat) : ∀ j, nz f j ≤ j
  | 0 => Nat.le_refl _
  | j + 1 => by
    have := nz_le f j
    rw [nz]
    split <;> omega
theorem nz_mono {f g : Nat → Nat} : ∀ {j : Nat}, (∀ l, l < j → f l ≤ g l) → nz f j ≤ nz g j
  | 0, _ => Nat.le_refl _
  | j + 1, h => by
    have := nz_mono (j := j) (fun l hl => h l (by omega))
    have := h j (by omega)
    rw [nz, nz]
    split <;> split <;> omega
def lS (nd a : Nat → Nat) (q : Nat → Bool) (l : Nat) : Nat := su q (fun p => if a p = l then nd p else 0) 8
def uS (a : Nat → Nat) (q : Nat → Bool) (l : Nat) : Nat := su q (fun p => if a p = l then 1 else 0) 8
def dg (p : Nat) : Nat := 8 ^ (7 - p)
def vld (nd ly : Nat → Nat) (lc : Nat → Bool) (a : Nat → Nat) (q : Nat → Bool) (j : Nat) : Prop := (∀ p, p < 8 → q p = true → a p < j ∧ lc (a p) = true) ∧ ∀ l, l < j → lS nd a q l ≤ ly l
def cst (a : Nat → Nat) (q : Nat → Bool) (j : Nat) : Nat := 16777216 * nz (uS a q) j + su q (fun p => a p * dg p) 8
theorem lS_cg {nd a b : Nat → Nat} {q : Nat → Bool} {l : Nat} (h : ∀ p, p < 8 → q p = true → a p = b p) : lS nd a q l = lS nd b q l := su_cg (fun p hp => ⟨rfl, fun hq => by rw [h p hp hq]⟩)
theorem uS_cg {a b : Nat → Nat} {q : Nat → Bool} {l : Nat} (h : ∀ p, p < 8 → q p = true → a p = b p) : uS a q l = uS b q l := su_cg (fun p hp => ⟨rfl, fun hq => by rw [h p hp hq]⟩)
theorem cst_cg {a b : Nat → Nat} {q : Nat → Bool} {j : Nat} (h : ∀ p, p < 8 → q p = true → a p = b p) : cst a q j = cst b q j := by
  unfold cst
  rw [nz_cg (fun l _ => uS_cg h), su_cg (q' := q) (f' := fun p => b p * dg p) (fun p hp => ⟨rfl, fun hq => by rw [h p hp hq]⟩)]
theorem vld_cg {nd ly : Nat → Nat} {lc : Nat → Bool} {a b : Nat → Nat} {q : Nat → Bool} {j : Nat} (h : ∀ p, p < 8 → q p = true → a p = b p) (v : vld nd ly lc a q j) : vld nd ly lc b q j :=
  ⟨fun p hp hq => by rw [← h p hp hq]; exact v.1 p hp hq, fun l hl => by rw [← lS_cg h]; exact v.2 l hl⟩
/-- a dyeing with one lot more: the places g have it -/
theorem one_more {nd ly : Nat → Nat} {lc : Nat → Bool} {a : Nat → Nat} {q g : Nat → Bool} {j : Nat} (hg : ∀ p, p < 8 → (q p && decide (a p = j)) = g p) (hne : ∃ p, p < 8 ∧ g p = true) :
    (vld nd ly lc a q (j + 1) ↔ vld nd ly lc a (fun p => q p && !g p) j ∧ lc j = true ∧ su g nd 8 ≤ ly j) ∧ cst a q (j + 1) = cst a (fun p => q p && !g p) j + 16777216 + j * su g dg 8 := by
  have h1 : ∀ p, p < 8 → g p = true → q p = true ∧ a p = j := fun p hp hgp => by
    have := hg p hp
    rw [hgp] at this
    simpa using this
  have h2 : ∀ p, p < 8 → g p = false → q p = true → ¬ a p = j := fun p hp hgp hq => by
    have := hg p hp
    rw [hgp, hq] at this
    simpa using this
  have sp : ∀ f, su q f 8 = su (fun p => q p && !g p) f 8 + su g f 8 := fun f => su_sp (fun p hp => by
    have := h1 p hp
    cases hq : q p <;> cases hz : g p <;> simp_all)
  have L1 : ∀ l, l ≠ j → ∀ c : Nat → Nat, su q (fun p => if a p = l then c p else 0) 8 = su (fun p => q p && !g p) (fun p => if a p = l then c p else 0) 8 := fun l hl c => by
    rw [sp, su_0 (q := g) (fun p hp hgp => by rw [if_neg (by rw [(h1 p hp hgp).2]; exact fun e => hl e.symm)])]
    rfl
  have L2 : ∀ c : Nat → Nat, su q (fun p => if a p = j then c p else 0) 8 = su g c 8 := fun c => by
    rw [sp, su_0 (q := fun p => q p && !g p) (fun p hp hq => by
      simp only [Bool.and_eq_true, Bool.not_eq_true'] at hq
      rw [if_neg (h2 p hp hq.2 hq.1)])]
    rw [Nat.zero_add]
    exact su_cg (fun p hp => ⟨rfl, fun hgp => by rw [if_pos (h1 p hp hgp).2]⟩)
  obtain ⟨p0, hp0, hgp0⟩ := hne
  refine ⟨⟨fun v => ⟨⟨fun p hp hq => ?_, fun l hl => ?_⟩, ?_, ?_⟩, fun v => ⟨fun p hp hq => ?_, fun l hl => ?_⟩⟩, ?_⟩
  · simp only [Bool.and_eq_true, Bool.not_eq_true'] at hq
    have w1 := v.1 p hp hq.1
    have := h2 p hp hq.2 hq.1
    exact ⟨by omega, w1.2⟩
  · have := v.2 l (by omega)
    unfold lS at this ⊢
    rw [L1 l (by omega)] at this
    exact this
  · have := v.1 p0 hp0 (h1 p0 hp0 hgp0).1
    rw [(h1 p0 hp0 hgp0).2] at this
    exact this.2
  · have := v.2 j (by omega)
    unfold lS at this
    rw [L2] at this
    exact this
  · by_cases hgp : g p = true
    · rw [(h1 p hp hgp).2]; exact ⟨by omega, v.2.1⟩
    · have := v.1.1 p hp (by simp only [hq, Bool.true_and]; simpa using hgp)
      exact ⟨by omega, this.2⟩
  · by_cases e : l = j
    · rw [e]; unfold lS; rw [L2]; exact v.2.2
    · have := v.1.2 l (by omega)
      unfold lS at this ⊢
      rw [L1 l e]
      exact this
  · unfold cst
    have e1 : nz (uS a q) (j + 1) = nz (uS a (fun p => q p && !g p)) j + 1 := by
      have e0 : nz (uS a q) j = nz (uS a (fun p => q p && !g p)) j := nz_cg (fun l hl => L1 l (by omega) (fun _ => 1))
      rw [nz, e0, if_pos]
      show 0 < su q (fun p => if a p = j then 1 else 0) 8
      rw [L2]
      exact su_pos hp0 hgp0 (by decide)
    have e2 : su g (fun p => a p * dg p) 8 = j * su g dg 8 := by
      rw [← su_mu]
      exact su_cg (fun p hp => ⟨rfl, fun hgp => by rw [(h1 p hp hgp).2]⟩)
    rw [e1, sp, e2]
    omega
/-- no place has the last lot -/
theorem none_more {nd ly : Nat → Nat} {lc : Nat → Bool} {a : Nat → Nat} {q : Nat → Bool} {j : Nat} (h : ∀ p, p < 8 → q p = true → ¬ a p = j) : (vld nd ly lc a q (j + 1) ↔ vld nd ly lc a q j) ∧ cst a q (j + 1) = cst a q j := by
  have z : ∀ c : Nat → Nat, su q (fun p => if a p = j then c p else 0) 8 = 0 := fun c => su_0 (fun p hp hq => by rw [if_neg (h p hp hq)])
  refine ⟨⟨fun v => ⟨fun p hp hq => ?_, fun l hl => v.2 l (by omega)⟩, fun v => ⟨fun p hp hq => ?_, fun l hl => ?_⟩⟩, ?_⟩
  · have w1 := v.1 p hp hq
    have := h p hp hq
    exact ⟨by omega, w1.2⟩
  · have := v.1 p hp hq
    exact ⟨by omega, this.2⟩
  · by_cases e : l = j
    · rw [e]; unfold lS; rw [z]; exact Nat.zero_le _
    · exact v.2 l (by omega)
  · unfold cst
    rw [nz, if_neg (by show ¬ 0 < su q (fun p => if a p = j then 1 else 0) 8; rw [z]; omega)]
    rfl
/-- the least cost over the first j lots -/
def Rm (nd ly : Nat → Nat) (lc : Nat → Bool) (j : Nat) (q : Nat → Bool) : Option Nat → Prop
  | none => ∀ a, ¬ vld nd ly lc a q j
  | some x => (∃ a, vld nd ly lc a q j ∧ cst a q j = x) ∧ ∀ b, vld nd ly lc b q j → x ≤ cst b q j
def Gm (a : Nat → Nat) (q : Nat → Bool) (j : Nat) : Nat := mk (fun p => q p && decide (a p = j)) 8
def RG (nd ly : Nat → Nat) (lc : Nat → Bool) (j : Nat) (q : Nat → Bool) (g : Nat) : Option Nat → Prop
  | none => ∀ a, vld nd ly lc a q (j + 1) → ¬ (Gm a q j = 0 ∨ g < Gm a q j)
  | some x => (∃ a, vld nd ly lc a q (j + 1) ∧ (Gm a q j = 0 ∨ g < Gm a q j) ∧ cst a q (j + 1) = x) ∧ ∀ b, vld nd ly lc b q (j + 1) → (Gm b q j = 0 ∨ g < Gm b q j) → x ≤ cst b q (j + 1)
def mnO (v : Option Nat) (x : Nat) : Nat := match v with
  | none => x
  | some y => if x < y then x else y
section RMS
variable {nd ly : Nat → Nat} {lc : Nat → Bool} {j : Nat}
theorem Rm_0 : Rm nd ly lc 0 (Nat.testBit 0) (some 0) := by
  have z : ∀ f, su (Nat.testBit 0) f 8 = 0 := fun f => su_0 (fun p hp hq => by rw [Nat.zero_testBit] at hq; cases hq)
  refine ⟨⟨fun _ => 0, ⟨fun p hp hq => (by rw [Nat.zero_testBit] at hq; cases hq), fun l hl => absurd hl (Nat.not_lt_zero _)⟩, ?_⟩, fun b _ => Nat.zero_le _⟩
  unfold cst
  rw [z]; rfl
theorem tb_ne {S : Nat} (h : S < 256) (h0 : S ≠ 0) : ∃ p, p < 8 ∧ S.testBit p = true := by
  by_cases q : ∃ p, p < 8 ∧ S.testBit p = true
  · exact q
  · exfalso
    have e := mk_of (S := S) (n := 8) h
    have : mk S.testBit 8 = 0 := su_0 (fun p hp hq => absurd ⟨p, hp, hq⟩ q)
    omega
theorem Rm_1 {S : Nat} (h : S < 256) (h0 : S ≠ 0) : Rm nd ly lc 0 S.testBit none := fun a v => by
  obtain ⟨p, hp, hq⟩ := tb_ne h h0
  exact absurd (v.1 p hp hq).1 (Nat.not_lt_zero _)
theorem Rm_no {q : Nat → Bool} {v : Option Nat} (hl : lc j = false) (r : Rm nd ly lc j q v) : Rm nd ly lc (j + 1) q v := by
  have key : ∀ a, vld nd ly lc a q (j + 1) → vld nd ly lc a q j ∧ cst a q (j + 1) = cst a q j := fun a va => by
    have h : ∀ p, p < 8 → q p = true → ¬ a p = j := fun p hp hq e => by
      have := (va.1 p hp hq).2
      rw [e, hl] at this; cases this
    have := none_more (nd := nd) (ly := ly) (lc := lc) h
    exact ⟨this.1.mp va, this.2⟩
  have key2 : ∀ a, vld nd ly lc a q j → vld nd ly lc a q (j + 1) ∧ cst a q (j + 1) = cst a q j := fun a va => by
    have h : ∀ p, p < 8 → q p = true → ¬ a p = j := fun p hp hq => by
      have := (va.1 p hp hq).1; omega
    have := none_more (nd := nd) (ly := ly) (lc := lc) h
    exact ⟨this.1.mpr va, this.2⟩
  cases v with
  | none => exact fun a va => r a (key a va).1
  | some x =>
    obtain ⟨⟨a, va, ca⟩, m⟩ := r
    exact ⟨⟨a, (key2 a va).1, by rw [(key2 a va).2]; exact ca⟩, fun b vb => by rw [(key b vb).2]; exact m b (key b vb).1⟩
theorem Gm_0 {a : Nat → Nat} {q : Nat → Bool} (h : Gm a q j = 0) : ∀ p, p < 8 → q p = true → ¬ a p = j := fun p hp hq e => by
  have := mk_tb (fun p => q p && decide (a p = j)) 8 p hp
  unfold Gm at h
  rw [h, Nat.zero_testBit, hq, decide_eq_true e] at this
  cases this
theorem Gm_z {a : Nat → Nat} {q : Nat → Bool} (h : ∀ p, p < 8 → q p = true → ¬ a p = j) : Gm a q j = 0 := su_0 (fun p hp hq => by
  simp only [Bool.and_eq_true, decide_eq_true_eq] at hq
  exact absurd hq.2 (h p hp hq.1))
theorem Gm_le {a : Nat → Nat} {S : Nat} (h : S < 256) : Gm a S.testBit j ≤ S := by
  have e := mk_of (S := S) (n := 8) h
  have l : mk (fun p => S.testBit p && decide (a p = j)) 8 ≤ mk S.testBit 8 := su_mono (fun p hp => ⟨fun hq => by simp only [Bool.and_eq_true] at hq; exact hq.1, Nat.le_refl _⟩)
  rw [e] at l
  exact l
theorem Gm_su {a : Nat → Nat} {S : Nat} (h : S < 256) : Gm a S.testBit j &&& S = Gm a S.testBit j := by
  apply Nat.eq_of_testBit_eq
  intro i
  rw [Nat.testBit_and]
  by_cases hi : i < 8
  · have : (Gm a S.testBit j).testBit i = (S.testBit i && decide (a i = j)) := mk_tb _ 8 i hi
    rw [this]
    cases S.testBit i <;> simp
  · have l : Gm a S.testBit j < 2 ^ i := Nat.lt_of_lt_of_le (mk_lt _ 8) (Nat.pow_le_pow_right (by decide) (by omega))
    rw [Nat.testBit_lt_two_pow l]; rfl
theorem RG_st {S : Nat} {v : Option Nat} (hS : S < 256) (r : Rm nd ly lc j S.testBit v) : RG nd ly lc j S.testBit S v := by
  have key : ∀ a, vld nd ly lc a S.testBit (j + 1) → Gm a S.testBit j = 0 ∨ S < Gm a S.testBit j → vld nd ly lc a S.testBit j ∧ cst a S.testBit (j + 1) = cst a S.testBit j := fun a va hg => by
    have hz : Gm a S.testBit j = 0 := by have := Gm_le (a := a) (j := j) hS; omega
    have := none_more (nd := nd) (ly := ly) (lc := lc) (Gm_0 hz)
    exact ⟨this.1.mp va, this.2⟩
  cases v with
  | none => exact fun a va hg => r a (key a va hg).1
  | some x =>
    obtain ⟨⟨a, va, ca⟩, m⟩ := r
    have h : ∀ p, p < 8 → S.testBit p = true → ¬ a p = j := fun p hp hq => by
      have := (va.1 p hp hq).1; omega
    have k2 := none_more (nd := nd) (ly := ly) (lc := lc) h
    exact ⟨⟨a, k2.1.mpr va, Or.inl (Gm_z h), by rw [k2.2]; exact ca⟩, fun b vb hb => by rw [(key b vb hb).2]; exact m b (key b vb hb).1⟩
theorem RG_end {S : Nat} {v : Option Nat} (r : RG nd ly lc j S.testBit 0 v) : Rm nd ly lc (j + 1) S.testBit v := by
  cases v with
  | none => exact fun a va => r a va (by omega)
  | some x =>
    obtain ⟨⟨a, va, -, ca⟩, m⟩ := r
    exact ⟨⟨a, va, ca⟩, fun b vb => m b vb (by omega)⟩
theorem RG_step {S g : Nat} {v w : Option Nat} (hS : S < 256) (hg : g &&& S = g) (hg0 : 0 < g) (hl : lc j = true) (r : RG nd ly lc j S.testBit g v) (rw' : Rm nd ly lc j (S - g).testBit w) :
    RG nd ly lc j S.testBit ((g - 1) &&& S) (if su g.testBit nd 8 ≤ ly j then (match w with | none => v | some y => some (mnO v (y + 16777216 + j * su g.testBit dg 8))) else v) := by
  have gl := sb_tb (n := 8) hS hg
  have sub : ∀ p, g.testBit p = true → S.testBit p = true := fun p hp => by
    have := congrArg (fun x => x.testBit p) hg
    simp only [Nat.testBit_and, hp, Bool.true_and] at this
    exact this
  have qd : ∀ p, p < 8 → (S - g).testBit p = (S.testBit p && !g.testBit p) := fun p hp => by rw [gl.2]; exact mk_tb _ 8 p hp
  have ne := tb_ne (show g < 256 by omega) (by omega)
  have g1 : (g - 1) &&& S < g := by have := @Nat.and_le_left (g - 1) S; omega
  -- those with the places g
  have cl : ∀ a, (Gm a S.testBit j = 0 ∨ (g - 1) &&& S < Gm a S.testBit j) ↔ (Gm a S.testBit j = 0 ∨ g < Gm a S.testBit j) ∨ Gm a S.testBit j = g := fun a => by
    have l := nx_sub S g (Gm a S.testBit j) hg (Gm_su hS)
    omega
  have gb : ∀ a, Gm a S.testBit j = g → ∀ p, p < 8 → (S.testBit p && decide (a p = j)) = g.testBit p := fun a e p hp => by rw [← e]; exact (mk_tb (fun p => S.testBit p && decide (a p = j)) 8 p hp).symm
  have sq : ∀ f, su (S - g).testBit f 8 = su (fun p => S.testBit p && !g.testBit p) f 8 := fun f => su_cg (fun p hp => ⟨qd p hp, fun _ => rfl⟩)
  have v1 : ∀ a, vld nd ly lc a (fun p => S.testBit p && !g.testBit p) j ↔ vld nd ly lc a (S - g).testBit j := fun a => by
    unfold vld lS
    simp only [sq]
    refine ⟨fun h => ⟨fun p hp hq => h.1 p hp (by rw [← qd p hp]; exact hq), h.2⟩, fun h => ⟨fun p hp hq => h.1 p hp (by rw [qd p hp]; exact hq), h.2⟩⟩
  have c1 : ∀ a, cst a (fun p => S.testBit p && !g.testBit p) j = cst a (S - g).testBit j := fun a => by
    unfold cst
    rw [sq, nz_cg (g := uS a (S - g).testBit) (fun l _ => by unfold uS; rw [sq])]
  have om : ∀ a, Gm a S.testBit j = g → (vld nd ly lc a S.testBit (j + 1) ↔ vld nd ly lc a (S - g).testBit j ∧ lc j = true ∧ su g.testBit nd 8 ≤ ly j) ∧ cst a S.testBit (j + 1) = cst a (S - g).testBit j + 16777216 + j * su g.testBit dg 8 := fun a e => by
    have := one_more (nd := nd) (ly := ly) (lc := lc) (gb a e) ne
    rw [v1, c1] at this
    exact this
  have ex : ∀ b, vld nd ly lc b (S - g).testBit j → ∃ a, Gm a S.testBit j = g ∧ vld nd ly lc a (S - g).testBit j ∧ cst a (S - g).testBit j = cst b (S - g).testBit j := fun b vb => by
    have cg : ∀ p, p < 8 → (S - g).testBit p = true → b p = (fun p => if g.testBit p then j else b p) p := fun p hp hq => by
      rw [qd p hp] at hq
      simp only [Bool.and_eq_true, Bool.not_eq_true'] at hq
      simp only [hq.2]; rfl
    refine ⟨fun p => if g.testBit p then j else b p, ?_, vld_cg cg vb, (cst_cg cg).symm⟩
    have e : mk g.testBit 8 = g := mk_of (show g < 2 ^ 8 by omega)
    rw [← e]
    unfold Gm
    refine su_cg (fun p hp => ⟨?_, fun _ => rfl⟩)
    rw [e]
    cases hgp : g.testBit p with
    | true => rw [sub p hgp]; simp [hgp]
    | false =>
      cases hsp : S.testBit p with
      | false => rfl
      | true =>
        have := (vb.1 p hp (by rw [qd p hp, hsp, hgp]; rfl)).1
        simp only [Bool.true_and, hgp, Bool.false_eq_true, if_false]
        exact decide_eq_false (by omega)
  by_cases hn : su g.testBit nd 8 ≤ ly j
  · rw [if_pos hn]
    cases w with
    | none =>
      have no : ∀ a, vld nd ly lc a S.testBit (j + 1) → ¬ Gm a S.testBit j = g := fun a va e => rw' a ((om a e).1.mp va).1
      cases v with
      | none =>
        intro a va hc
        rcases (cl a).mp hc with h | h
        · exact r a va h
        · exact no a va h
      | some x =>
        obtain ⟨⟨a, va, ha, ca⟩, m⟩ := r
        refine ⟨⟨a, va, (cl a).mpr (Or.inl ha), ca⟩, fun b vb hb => ?_⟩
        rcases (cl b).mp hb with h | h
        · exact m b vb h
        · exact absurd h (no b vb)
    | some y =>
      obtain ⟨⟨a0, va0, ca0⟩, m0⟩ := rw'
      obtain ⟨a, ga, va, ca⟩ := ex a0 va0
      have va' := (om a ga).1.mpr ⟨va, hl, hn⟩
      have ca' : cst a S.testBit (j + 1) = y + 16777216 + j * su g.testBit dg 8 := by rw [(om a ga).2, ca, ca0]
      have lo : ∀ b, vld nd ly lc b S.testBit (j + 1) → Gm b S.testBit j = g → y + 16777216 + j * su g.testBit dg 8 ≤ cst b S.testBit (j + 1) := fun b vb gb' => by
        rw [(om b gb').2]
        have := m0 b ((om b gb').1.mp vb).1
        omega
      cases v with
      | none =>
        refine ⟨⟨a, va', (cl a).mpr (Or.inr ga), ca'⟩, fun b vb hb => ?_⟩
        rcases (cl b).mp hb with h | h
        · exact absurd h (r b vb)
        · exact lo b vb h
      | some x =>
        obtain ⟨⟨a2, va2, ha2, ca2⟩, m⟩ := r
        show RG nd ly lc j S.testBit ((g - 1) &&& S) (some (if y + 16777216 + j * su g.testBit dg 8 < x then y + 16777216 + j * su g.testBit dg 8 else x))
        by_cases hlt : y + 16777216 + j * su g.testBit dg 8 < x
        · rw [if_pos hlt]
          refine ⟨⟨a, va', (cl a).mpr (Or.inr ga), ca'⟩, fun b vb hb => ?_⟩
          rcases (cl b).mp hb with h | h
          · have := m b vb h; omega
          · exact lo b vb h
        · rw [if_neg hlt]
          refine ⟨⟨a2, va2, (cl a2).mpr (Or.inl ha2), ca2⟩, fun b vb hb => ?_⟩
          rcases (cl b).mp hb with h | h
          · exact m b vb h
          · have := lo b vb h; omega
  · rw [if_neg hn]
    have no : ∀ a, vld nd ly lc a S.testBit (j + 1) → ¬ Gm a S.testBit j = g := fun a va e => hn ((om a e).1.mp va).2.2
    cases v with
    | none =>
      intro a va hc
      rcases (cl a).mp hc with h | h
      · exact r a va h
      · exact no a va h
    | some x =>
      obtain ⟨⟨a, va, ha, ca⟩, m⟩ := r
      refine ⟨⟨a, va, (cl a).mpr (Or.inl ha), ca⟩, fun b vb hb => ?_⟩
      rcases (cl b).mp hb with h | h
      · exact m b vb h
      · exact absurd h (no b vb)
end RMS

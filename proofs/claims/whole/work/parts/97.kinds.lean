/-! a run never changes a cell's kind -/
def Okz (h g : pm_H) : Prop := zn h ≤ zn g ∧ ∀ a, a < zn h → zT g a = zT h a
theorem Okz.rf {h : pm_H} : Okz h h := ⟨Nat.le_refl _, fun _ _ => rfl⟩
theorem Okz.tr {h g f : pm_H} (p : Okz h g) (q : Okz g f) : Okz h f := ⟨Nat.le_trans p.1 q.1, fun a ha => (q.2 a (Nat.lt_of_lt_of_le ha p.1)).trans (p.2 a ha)⟩
theorem Okz.N {h : pm_H} {t l z : Nat} : Okz h (yN h t l z) := ⟨by rw [zn_yN]; omega, fun a ha => by rw [zT_yN, if_neg (by omega)]⟩
theorem Okz.AN {h : pm_H} {t l z b : Nat} {f : Nat → Int32} : Okz h (yA (yN h t l z) b f) := Okz.N (h := h) (t := t) (l := l) (z := z)
def okZs (h : pm_H) (S : pm_S) : Prop := match S with
  | none => True
  | some (.inl (_, _, _, g)) => Okz h g
  | some (.inr (.inl (_, _, _, _, g))) => Okz h g
  | some (.inr (.inr (.inl _))) => True
  | some (.inr (.inr (.inr (.inl _)))) => True
  | some (.inr (.inr (.inr (.inr (_, _, _, _, g))))) => Okz h g
set_option maxHeartbeats 4000000 in
theorem okZs_ex (mi pc len : Nat) (ins : Instr) (L : pm_Lo) (st : List Value) (h : pm_H) : okZs h (pm_ex mi pc len ins L st h) := by
  unfold pm_ex
  simp only [Bool.cond_eq_ite]
  repeat' split
  all_goals first | exact Okz.rf | trivial | exact Okz.N | exact Okz.AN
theorem okZs_stp (mi pc : Nat) (L : pm_Lo) (st : List Value) (h : pm_H) : okZs h (pm_stp mi pc L st h) := by
  unfold pm_stp
  split
  · exact okZs_ex _ _ _ _ _ _ _
  · trivial
def pm_Z : pm_X := fun _ _ _ _ h _ h' => Okz h h'
theorem pm_Z_cld : pm_cld pm_Z := by
  intro mi pc L st h r h' k
  have o := okZs_stp mi pc L st h
  match pm_stp mi pc L st h, o, k with
  | none, o, k => exact k.elim
  | some (.inl (pc', L', st', g)), o, k => exact o.tr k
  | some (.inr (.inl (G, pc', L', st', g))), o, k => exact o.tr k.2
  | some (.inr (.inr (.inl (c, t, f, st')))), o, k =>
    by_cases hc : c
    · exact k.1 hc
    · exact k.2 hc
  | some (.inr (.inr (.inr (.inl (G, v))))), o, k =>
    obtain ⟨-, -, e⟩ := k
    rw [e]; exact Okz.rf
  | some (.inr (.inr (.inr (.inr (G, mj, A, rest, g))))), o, k =>
    obtain ⟨-, r1, h1, k1, k2⟩ := k
    exact o.tr (Okz.tr k1 k2)
theorem pm_run_Z {mi pc : Nat} {L : pm_Lo} {st : List Value} {h : pm_H} {r : Option Value} {h' : pm_H} (k : pm_Run mi pc L st h r h') : Okz h h' := k pm_Z pm_Z_cld

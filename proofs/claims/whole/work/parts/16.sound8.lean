theorem pm_ft_lt {mi pc : Nat} {x : Instr × Nat} (h : pm_ft mi pc = some x) : mi < 180 ∧ pc < pm_sz mi := by
  unfold pm_ft at h
  cases hc : (Nat.blt mi 180 && Nat.blt pc (pm_sz mi)) with
  | false => rw [hc] at h; cases h
  | true =>
    simp only [Bool.and_eq_true] at hc
    exact ⟨Nat.le_of_ble_eq_true hc.1, Nat.le_of_ble_eq_true hc.2⟩
theorem pm_pop_spec : ∀ (n : Nat) (acc st as tl : List Value), pm_pop n acc st = some (as, tl) → as.reverse ++ tl = acc.reverse ++ st ∧ as.length = acc.length + n
  | 0, acc, st, as, tl, h => by cases h; exact ⟨rfl, rfl⟩
  | n + 1, acc, [], as, tl, h => by cases h
  | n + 1, acc, v :: st, as, tl, h => by
    obtain ⟨h1, h2⟩ := pm_pop_spec n (v :: acc) st as tl h
    refine ⟨by rw [h1]; simp, by rw [h2]; simp; omega⟩
theorem pm_lsw_off : ∀ (ps : List (Int × Int)) (d : Int) (x : Int32) (pc : Nat), 0 ≤ d → (∀ q ∈ ps, 0 ≤ q.2) → (pc : Int) + Op.lookupswitch.offset (ps.map (fun q => (q.1, q.2 - pc))) (d - pc) x.toInt = ((pm_lsw ps d x : Nat) : Int)
  | [], d, x, pc, hd, _ => by
    show (pc : Int) + (d - pc) = ((d.toNat : Nat) : Int)
    omega
  | q :: r, d, x, pc, hd, hq => by
    have ih := pm_lsw_off r d x pc hd (fun z hz => hq z (List.mem_cons_of_mem _ hz))
    have h0 := hq q List.mem_cons_self
    simp only [List.map_cons, pm_lsw]
    rw [Op.lookupswitch.offset_cons]
    by_cases e : x.toInt = q.1
    · rw [if_pos e, if_pos e.symm]
      show (pc : Int) + (q.2 - pc) = _
      omega
    · rw [if_neg e, if_neg (fun z => e z.symm)]
      exact ih
section SD8
variable {mi pc len : Nat} {L : pm_Lo} {st : List Value} {h : pm_H} {r : Option Value} {h' : pm_H}
theorem sd_opP {ins : Instr} (k : pm_K pm_P mi pc L h r h' (match pm_op ins st with | some st' => s_nx (pc + len) L st' h | none => none)) (hd : decode (pm_b mi) pc = .ok (pm_ur pc ins, len)) (hln : pm_ln ins = 0 ∨ pm_ln ins = len) (hlk : pm_lk mi ins = true) : pm_P mi pc L st h r h' := by
  cases ho : pm_op ins st with
  | none => rw [ho] at k; exact k.elim
  | some st' =>
    rw [ho] at k
    exact ⟨k.1, fun b0 D cA ad p l e s m args below meth c H locs ls n0 k0 C R LR S hn hk => sd_op C ho hd hln hlk (k.2 b0 D cA ad p l e s m args below meth c H locs ls n0 k0 C R LR S hn hk)⟩
theorem sd_ld (ins : Instr) {i : Nat} {v : Value} (hg : pm_get L i = some v) (k : pm_P mi (pc + len) L (v :: st) h r h')
    (f : ∀ (b0 : Nat) (ad : Nat → Nat) (p : Program) (l : Launch) (e : Env) (R : Room) (s : State) (m : MethodId) (args : Array Value) (below : List Frame) (meth : Method) (c : Code) (H : Heap) (locs : List Loc) (cells slots : Nat) (Q : State → Prop) (ls : Array Slot), p.tables.exec = Jvm.exec → c.code = pm_b mi → ls[i]? = some (.val (pm_mv b0 ad v)) → W p l e R s m args below meth c H locs cells slots Q (F0 m (pc + len) ls (pm_mv b0 ad v :: st.map (pm_mv b0 ad))) → W p l e R s m args below meth c H locs cells slots Q (F0 m pc ls (st.map (pm_mv b0 ad)))) : pm_P mi pc L st h r h' :=
  ⟨k.1, fun b0 D cA ad p l e s m args below meth c H locs ls n0 k0 C R LR S hn hk => f b0 ad p l e _ s m args below meth c H locs _ _ _ ls C.1 C.2.1 (LR.at hg) (k.2 b0 D cA ad p l e s m args below meth c H locs ls n0 k0 C R LR S hn hk)⟩
theorem sd_st {i : Nat} {v : Value} (hok : pm_ok L i = true) (k : pm_P mi (pc + len) (pm_set L i (some v)) st h r h')
    (f : ∀ (b0 : Nat) (ad : Nat → Nat) (p : Program) (l : Launch) (e : Env) (R : Room) (s : State) (m : MethodId) (args : Array Value) (below : List Frame) (meth : Method) (c : Code) (H : Heap) (locs : List Loc) (cells slots : Nat) (Q : State → Prop) (ls : Array Slot) (lv : List (Nat × Value)), p.tables.exec = Jvm.exec → c.code = pm_b mi → lv_has ls (pm_L mi) lv → i < pm_L mi → (∀ ls' : Array Slot, lv_has ls' (pm_L mi) ((i, pm_mv b0 ad v) :: lv.filter (fun q => !(q.1 == i) && !(q.1 + 1 == i && q.2.category == 2))) → W p l e R s m args below meth c H locs cells slots Q (F0 m (pc + len) ls' (st.map (pm_mv b0 ad)))) → W p l e R s m args below meth c H locs cells slots Q (F0 m pc ls (pm_mv b0 ad v :: st.map (pm_mv b0 ad)))) : pm_P mi pc L (v :: st) h r h' :=
  ⟨k.1, fun b0 D cA ad p l e s m args below meth c H locs ls n0 k0 C R LR S hn hk => f b0 ad p l e _ s m args below meth c H locs _ _ _ ls _ C.1 C.2.1 LR.2 (by have := pm_ok_lt hok; rw [LR.1] at this; exact this) (fun ls' h9 => k.2 b0 D cA ad p l e s m args below meth c H locs ls' n0 k0 C R (LR.set1 hok h9) S hn hk)⟩
theorem sd_br {G : Prop} {t f : Nat} {st' : List Value} (k : pm_K pm_P mi pc L h r h' (s_br G t f st'))
    (g : ∀ (b0 : Nat) (ad : Nat → Nat) (p : Program) (l : Launch) (e : Env) (R : Room) (s : State) (m : MethodId) (args : Array Value) (below : List Frame) (meth : Method) (c : Code) (H : Heap) (locs : List Loc) (cells slots : Nat) (Q : State → Prop) (ls : Array Slot), p.tables.exec = Jvm.exec → c.code = pm_b mi → (G → W p l e R s m args below meth c H locs cells slots Q (F0 m t ls (st'.map (pm_mv b0 ad)))) → (¬ G → W p l e R s m args below meth c H locs cells slots Q (F0 m f ls (st'.map (pm_mv b0 ad)))) → W p l e R s m args below meth c H locs cells slots Q (F0 m pc ls (st.map (pm_mv b0 ad)))) : pm_P mi pc L st h r h' := by
  have k' : (G → pm_P mi t L st' h r h') ∧ (¬ G → pm_P mi f L st' h r h') := k
  refine ⟨?_, fun b0 D cA ad p l e s m args below meth c H locs ls n0 k0 C R LR S hn hk => g b0 ad p l e _ s m args below meth c H locs _ _ _ ls C.1 C.2.1 (fun q => (k'.1 q).2 b0 D cA ad p l e s m args below meth c H locs ls n0 k0 C R LR S hn hk) (fun q => (k'.2 q).2 b0 D cA ad p l e s m args below meth c H locs ls n0 k0 C R LR S hn hk)⟩
  by_cases q : G
  · exact (k'.1 q).1
  · exact (k'.2 q).1
/-- the same heap, other place -/
theorem sd_mvP {pc' : Nat} {st' : List Value} (k : pm_P mi pc' L st' h r h')
    (f : ∀ (b0 : Nat) (D : va_G) (cA : Nat → ClassId) (ad : Nat → Nat) (p : Program) (l : Launch) (e : Env) (R : Room) (s : State) (m : MethodId) (args : Array Value) (below : List Frame) (meth : Method) (c : Code) (H : Heap) (locs : List Loc) (cells slots : Nat) (Q : State → Prop) (ls : Array Slot), pm_Cx b0 D cA ad p s m args meth c mi → pm_Rel b0 D cA h H → ls.size = pm_L mi → R.frames = pm_f mi ∧ R.locals = pm_lo mi → cells ≤ R.cells ∧ slots ≤ R.slots → W p l e R s m args below meth c H locs cells slots Q (F0 m pc' ls (st'.map (pm_mv b0 ad))) → W p l e R s m args below meth c H locs cells slots Q (F0 m pc ls (st.map (pm_mv b0 ad)))) : pm_P mi pc L st h r h' :=
  ⟨k.1, fun b0 D cA ad p l e s m args below meth c H locs ls n0 k0 C R LR S hn hk => f b0 D cA ad p l e (pm_rm mi (zn h' - n0) (zk h' - k0)) s m args below meth c H locs _ _ _ ls C R LR.2.1 ⟨rfl, rfl⟩ ⟨Nat.sub_le_sub_right k.1.1 _, Nat.sub_le_sub_right k.1.2 _⟩ (k.2 b0 D cA ad p l e s m args below meth c H locs ls n0 k0 C R LR S hn hk)⟩
/-- a heap of the same cells, other contents -/
theorem sd_wrP {pc' : Nat} {st' : List Value} {g : pm_H} (en : zn g = zn h) (ek : zk g = zk h) (k : pm_P mi pc' L st' g r h')
    (f : ∀ (b0 : Nat) (D : va_G) (cA : Nat → ClassId) (ad : Nat → Nat) (p : Program) (l : Launch) (e : Env) (R : Room) (s : State) (m : MethodId) (args : Array Value) (below : List Frame) (meth : Method) (c : Code) (H : Heap) (locs : List Loc) (cells slots : Nat) (Q : State → Prop) (ls : Array Slot), pm_Cx b0 D cA ad p s m args meth c mi → pm_Rel b0 D cA h H → ls.size = pm_L mi → R.frames = pm_f mi ∧ R.locals = pm_lo mi → va_S (pm_A b0) s.heap H locs → (∀ (H1 : Heap) (locs1 : List Loc), pm_Rel b0 D cA g H1 → va_S (pm_A b0) s.heap H1 locs1 → W p l e R s m args below meth c H1 locs1 cells slots Q (F0 m pc' ls (st'.map (pm_mv b0 ad)))) → W p l e R s m args below meth c H locs cells slots Q (F0 m pc ls (st.map (pm_mv b0 ad)))) : pm_P mi pc L st h r h' := by
  refine ⟨by rw [← en, ← ek]; exact k.1, fun b0 D cA ad p l e s m args below meth c H locs ls n0 k0 C R LR S hn hk => f b0 D cA ad p l e (pm_rm mi (zn h' - n0) (zk h' - k0)) s m args below meth c H locs _ _ _ ls C R LR.2.1 ⟨rfl, rfl⟩ S (fun H1 locs1 R1 S1 => ?_)⟩
  have K := k.2 b0 D cA ad p l e s m args below meth c H1 locs1 ls n0 k0 C R1 LR S1 (by rw [en]; exact hn) (by rw [ek]; exact hk)
  rw [en, ek] at K
  exact K
/-- a new cell of z places -/
theorem sd_alP {pc' z : Nat} {st' : List Value} {g : pm_H} (en : zn g = zn h + 1) (ek : zk g = zk h + z) (k : pm_P mi pc' L st' g r h')
    (f : ∀ (b0 : Nat) (D : va_G) (cA : Nat → ClassId) (ad : Nat → Nat) (p : Program) (l : Launch) (e : Env) (R : Room) (s : State) (m : MethodId) (args : Array Value) (below : List Frame) (meth : Method) (c : Code) (H : Heap) (locs : List Loc) (cells slots : Nat) (Q : State → Prop) (ls : Array Slot), pm_Cx b0 D cA ad p s m args meth c mi → pm_Rel b0 D cA h H → ls.size = pm_L mi → R.frames = pm_f mi ∧ R.locals = pm_lo mi → va_S (pm_A b0) s.heap H locs → cells + 1 ≤ R.cells → slots + z ≤ R.slots → (∀ H1 : Heap, pm_Rel b0 D cA g H1 → va_S (pm_A b0) s.heap H1 locs → W p l e R s m args below meth c H1 locs (cells + 1) (slots + z) Q (F0 m pc' ls (st'.map (pm_mv b0 ad)))) → W p l e R s m args below meth c H locs cells slots Q (F0 m pc ls (st.map (pm_mv b0 ad)))) : pm_P mi pc L st h r h' := by
  have k1 := k.1
  rw [en, ek] at k1
  refine ⟨by omega, fun b0 D cA ad p l e s m args below meth c H locs ls n0 k0 C R LR S hn hk => f b0 D cA ad p l e (pm_rm mi (zn h' - n0) (zk h' - k0)) s m args below meth c H locs _ _ _ ls C R LR.2.1 ⟨rfl, rfl⟩ S (by show zn h - n0 + 1 ≤ zn h' - n0; omega) (by show zk h - k0 + z ≤ zk h' - k0; omega) (fun H1 R1 S1 => ?_)⟩
  have K := k.2 b0 D cA ad p l e s m args below meth c H1 locs ls n0 k0 C R1 LR S1 (by omega) (by omega)
  exact W.cs (by omega) (by omega) K
theorem sd_callP {mj : Nat} {as rest : List Value} {A : pm_Lo} (hmj : mj < 180) (hA : A = pm_ent (pm_L mj) as) (hao : pm_aok (pm_L mj) as = true) (k : ∃ r1 h1, pm_P mj 0 A [] h r1 h1 ∧ pm_P mi (pc + 3) L (r1.toList ++ rest) h1 r h')
    (f : ∀ (b0 : Nat) (D : va_G) (cA : Nat → ClassId) (ad : Nat → Nat) (p : Program) (l : Launch) (e : Env) (R : Room) (s : State) (m : MethodId) (args : Array Value) (below : List Frame) (meth : Method) (c : Code) (H : Heap) (locs : List Loc) (cells slots mc ms : Nat) (ls : Array Slot) (Qc : Array Value → State → Outcome → State → Prop), pm_Cx b0 D cA ad p s m args meth c mi → pm_Rel b0 D cA h H → ls.size = pm_L mi → R.frames = pm_f mi ∧ R.locals = pm_lo mi → va_S (pm_A b0) s.heap H locs → cells + mc ≤ R.cells ∧ slots + ms ≤ R.slots → Met l (pm_y mj) (pm_ws mj) (pm_rm mj mc ms) (pm_Pc b0 D cA ad h as) Qc mc ms (pm_A b0) → va_Run p l e R s m args below meth c H locs cells slots mc ms (F0 m pc ls (st.map (pm_mv b0 ad))) (rest.map (pm_mv b0 ad)) (Qc (as.map (pm_mv b0 ad)).toArray) (pm_A b0)) : pm_P mi pc L st h r h' := by
  subst hA
  obtain ⟨r1, h1, k1, k2⟩ := k
  have a1 := k1.1
  have a2 := k2.1
  refine ⟨by omega, fun b0 D cA ad p l e s m args below meth c H locs ls n0 k0 C R LR S hn hk => ?_⟩
  have M := sd_met k1 hmj hao b0 D cA ad l
  have K := f b0 D cA ad p l e (pm_rm mi (zn h' - n0) (zk h' - k0)) s m args below meth c H locs (zn h - n0) (zk h - k0) (zn h1 - zn h) (zk h1 - zk h) ls _ C R LR.2.1 ⟨rfl, rfl⟩ S ⟨by show zn h - n0 + (zn h1 - zn h) ≤ zn h' - n0; omega, by show zk h - k0 + (zk h1 - zk h) ≤ zk h' - k0; omega⟩ M
  refine sd_cont K C.2.2.2.2.2.2.2.2.2.1 S (fun H1 locs1 R1 S1 => ?_)
  have K2 := k2.2 b0 D cA ad p l e s m args below meth c H1 locs1 ls n0 k0 C R1 LR S1 (by omega) (by omega)
  rw [List.map_append, show List.map (pm_mv b0 ad) r1.toList = (r1.map (pm_mv b0 ad)).toList by cases r1 <;> rfl] at K2
  exact W.cs (by omega) (by omega) K2
end SD8

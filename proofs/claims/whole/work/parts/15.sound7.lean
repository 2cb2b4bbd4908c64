def pm_rm (mi cl sl : Nat) : Room := { frames := pm_f mi, cells := cl, slots := sl, locals := pm_lo mi }
def pm_Q (b0 : Nat) (D : va_G) (cA : Nat → ClassId) (ad : Nat → Nat) (r : Option Value) (h' : pm_H) : Array Value → State → Outcome → State → Prop := fun _ st o t => o = .returned (r.map (pm_mv b0 ad)) ∧ pm_Rel b0 D cA h' t.heap ∧ st.heap.size ≤ t.heap.size ∧ ∀ q, q < b0 → t.heap[q]? = st.heap[q]?
/-- what a state of the pure machine promises of the machine -/
def pm_P : pm_X := fun mi pc L st h r h' => (zn h ≤ zn h' ∧ zk h ≤ zk h') ∧ ∀ (b0 : Nat) (D : va_G) (cA : Nat → ClassId) (ad : Nat → Nat) (p : Program) (l : Launch) (e : Env) (s : State) (m : MethodId) (args : Array Value) (below : List Frame) (meth : Method) (c : Code) (H : Heap) (locs : List Loc) (ls : Array Slot) (n0 k0 : Nat),
  pm_Cx b0 D cA ad p s m args meth c mi → pm_Rel b0 D cA h H → pm_LR b0 ad (pm_L mi) L ls → va_S (pm_A b0) s.heap H locs → n0 ≤ zn h → k0 ≤ zk h →
  W p l e (pm_rm mi (zn h' - n0) (zk h' - k0)) s m args below meth c H locs (zn h - n0) (zk h - k0) (MQ below (pm_Q b0 D cA ad r h') args s (zn h' - n0) (zk h' - k0) (pm_A b0)) (F0 m pc ls (st.map (pm_mv b0 ad)))
def pm_Pc (b0 : Nat) (D : va_G) (cA : Nat → ClassId) (ad : Nat → Nat) (h : pm_H) (as : List Value) : Array Value → State → Prop := va_Pc (as.map (pm_mv b0 ad)) (fun U => pm_Rel b0 D cA h U.heap ∧ va_K D pm_vcl (pm_tys cA) U ∧ b0 ≤ U.heap.size ∧ pm_Sx ad b0 U ∧ pm_Ox U)
theorem pm_Sx.moved {ad : Nat → Nat} {b0 : Nat} {s U : State} (hv : s.WarmedH U.vm) (hq : ∀ a : Nat, a < s.heap.size → ¬ b0 ≤ a → U.heap[a]? = s.heap[a]?) (h : pm_Sx ad b0 s) : pm_Sx ad b0 U := by
  obtain ⟨⟨adV, h1⟩, h2, h3, h4⟩ := h
  exact ⟨⟨adV, (h1.kept hq).moved hv.alike⟩, fun i hi => (h2 i hi).warm hv, (h3.kept hq).moved hv.alike, (h4.kept hq).moved hv.alike⟩
theorem pm_Sx.same {ad : Nat → Nat} {b0 : Nat} {s U : State} (hv : U.vm = s.vm) (hh : U.heap = s.heap) (h : pm_Sx ad b0 s) : pm_Sx ad b0 U := by
  obtain ⟨⟨adV, h1⟩, h2, h3, h4⟩ := h
  rw [← hh] at h1 h3 h4
  have ha : s.vm.Alike U.vm := by rw [hv]; exact Vm.Alike.refl _
  exact ⟨⟨adV, h1.moved ha⟩, fun i hi => (h2 i hi).same hv, h3.moved ha, h4.moved ha⟩
theorem pm_Ox.moved {s U : State} (hv : s.WarmedH U.vm) (h : pm_Ox s) : pm_Ox U := ⟨h.1.moved hv.alike, h.2.1.moved hv.alike, h.2.2.1.moved hv.alike, va_Nw.warmC hv h.2.2.2⟩
theorem pm_Ox.same {s U : State} (hv : U.vm = s.vm) (h : pm_Ox s) : pm_Ox U := ⟨h.1.moved (by rw [hv]; exact Vm.Alike.refl _), h.2.1.moved (by rw [hv]; exact Vm.Alike.refl _), h.2.2.1.moved (by rw [hv]; exact Vm.Alike.refl _), va_Nw.same rfl hv.symm h.2.2.2⟩
theorem pm_Pc_blind (b0 : Nat) (D : va_G) (cA : Nat → ClassId) (ad : Nat → Nat) (h : pm_H) (as : List Value) : FrameBlind (pm_Pc b0 D cA ad h as) := by
  intro a U g mk q
  obtain ⟨q0, q1, q2, q3, q4, q5⟩ := q
  exact ⟨q0, q1, va_K.moved (u := U) (U := U.calling g mk a) (Vm.Alike.refl U.vm) q2, q3, q4.same rfl rfl, q5.same rfl⟩
theorem sd_met {mj : Nat} {as : List Value} {h : pm_H} {r1 : Option Value} {h1 : pm_H} (k : pm_P mj 0 (pm_ent (pm_L mj) as) [] h r1 h1) (hmj : mj < 180) (hao : pm_aok (pm_L mj) as = true) (b0 : Nat) (D : va_G) (cA : Nat → ClassId) (ad : Nat → Nat) (l : Launch) :
    Met l (pm_y mj) (pm_ws mj) (pm_rm mj (zn h1 - zn h) (zk h1 - zk h)) (pm_Pc b0 D cA ad h as) (pm_Q b0 D cA ad r1 h1) (zn h1 - zn h) (zk h1 - zk h) (pm_A b0) := by
  obtain ⟨m1, m2, m3, m4, m5, m6⟩ := pm_m_ok mj hmj
  simp only [pm_aok, Bool.and_eq_true] at hao
  have hnd : ∀ x, Value.double x ∉ as := fun x hx => absurd (List.all_eq_true.mp hao.2 _ hx) (by simp [pm_nod])
  have hao := hao.1
  refine Met.ofW (cc := pm_b mj) (maxL := pm_L mj) (ret := pm_r mj) m2 rfl ?_
  intro p e s m args below meth c s₁ B hml hv
  obtain ⟨rfl, hRel, hK, hb0, hSx, hOx⟩ := hv
  have hts := atoms_spec (ws := pm_ws mj) B.pre
  have hown : s.vm.findClass (pm_R (pm_o mj)) = some m.cls := by rw [← m4]; exact findClass_of_methodNamed B.named
  have hsum : ((as.map (pm_mv b0 ad)).map fun v => v.category).sum ≤ pm_L mj := by
    rw [List.map_map]
    have : (fun v => Value.category v) ∘ pm_mv b0 ad = fun v => v.category := by funext v; exact pm_mv_cat b0 ad v
    rw [this]
    exact Nat.le_of_ble_eq_true hao
  have hl := lv_entry (as.map (pm_mv b0 ad)) (n := pm_L mj) (by rw [lg_sl_len]; exact hsum)
  rw [lg_entry_eq]
  generalize (lg_sl (as.map (pm_mv b0 ad)) ++ List.replicate (pm_L mj - (lg_sl (as.map (pm_mv b0 ad))).length) Slot.unset).toArray = ls at hl ⊢
  have hLR : pm_LR b0 ad (pm_L mj) (pm_ent (pm_L mj) as) ls := by
    refine ⟨pm_ent_len as _ (Nat.le_of_ble_eq_true hao), hl.1, hl.2.1, fun q hq => hl.2.2 q ?_⟩
    obtain ⟨v, h1, h2⟩ := pm_as_mem.mp hq
    have := pm_ent_get b0 ad as (pm_L mj) 0 q.1 v hnd h1
    rw [Nat.zero_add, ← h2] at this
    exact this
  have C : pm_Cx b0 D cA ad p s m (as.map (pm_mv b0 ad)).toArray meth c mj := by
    refine ⟨B.exec, B.bytes, hml, hown, B.returns, B.notSynchronized, fun h2 => ?_, fun w hw => hts w (List.mem_cons_of_mem _ hw), hK, hb0, hmj, hSx, hOx⟩
    rw [h2] at m6
    rw [(name_of_methodNamed B.named B.method).1]
    exact m6.2.1
  have K := k.2 b0 D cA ad p l e s m (as.map (pm_mv b0 ad)).toArray below meth c s.heap [] ls (zn h) (zk h) C hRel hLR va_S.rf (Nat.le_refl _) (Nat.le_refl _)
  rw [Nat.sub_self, Nat.sub_self] at K
  exact K
section SD7
variable {b0 : Nat} {D : va_G} {cA : Nat → ClassId} {ad : Nat → Nat} {p : Program} {l : Launch} {e : Env} {R : Room} {s : State} {m : MethodId} {args : Array Value} {below : List Frame} {meth : Method} {c : Code} {H : Heap} {locs : List Loc} {cells slots : Nat} {Q : State → Prop} {mi pc : Nat} {ls : Array Slot} {h : pm_H}
theorem sd_cont {rest st0 : List Value} {a : Array Value} {mc ms : Nat} {r1 : Option Value} {h1 : pm_H} (hr : va_Run p l e R s m args below meth c H locs cells slots mc ms (F0 m pc ls st0) rest (pm_Q b0 D cA ad r1 h1 a) (pm_A b0)) (hb0 : b0 ≤ s.heap.size) (hS : va_S (pm_A b0) s.heap H locs)
    (kk : ∀ (H1 : Heap) (locs1 : List Loc), pm_Rel b0 D cA h1 H1 → va_S (pm_A b0) s.heap H1 locs1 → W p l e R s m args below meth c H1 locs1 (cells + mc) (slots + ms) Q (F0 m (pc + 3) ls ((r1.map (pm_mv b0 ad)).toList ++ rest))) : W p l e R s m args below meth c H locs cells slots Q (F0 m pc ls st0) := by
  intro T hT X
  obtain ⟨v, st₀, t, T', L, h0, X', hL, e1, e2, ⟨hv, hrel, hz, hk⟩, st⟩ := hr T hT X
  cases hv
  rw [h0] at hz hk
  obtain ⟨t2, a1, b1⟩ := kk T'.heap (locs ++ L) (by rw [e1]; exact hrel) ⟨Nat.le_trans hS.1 (by rw [e1]; exact hz), fun q g1 g2 => by rw [e1, hk q (Nat.lt_of_not_le g2)]; exact hS.2.1 q g1 g2, fun q hq => by
      rcases List.mem_append.mp hq with h | h
      · exact hS.2.2 q h
      · exact hL q h⟩ T' rfl X'
  exact ⟨t2, st t2 a1, b1⟩
theorem sd_pre (C : pm_Cx b0 D cA ad p s m args meth c mi) (r : pm_Rel b0 D cA h H) (hS : va_S (pm_A b0) s.heap H locs) (as : List Value) : ∀ U : State, U.heap = H → s.WarmedH U.vm → pm_Pc b0 D cA ad h as (as.map (pm_mv b0 ad)).toArray U := by
  intro U hU hW
  obtain ⟨-, -, -, -, -, -, -, -, hK, hb0, -, hSx, hOx⟩ := C
  refine ⟨rfl, by rw [hU]; exact r, va_K.moved hW.alike hK, by rw [hU, r.1]; omega, hSx.moved hW (fun a h1 h2 => by rw [hU]; exact hS.2.1 a h1 h2), hOx.moved hW⟩
theorem sd_cb (C : pm_Cx b0 D cA ad p s m args meth c mi) {g mc ms : Nat} {cl : List Nat} {sk : Nat} (hb : Nat.blt g (2 ^ 40) = true) (hcl : ∀ q ∈ cl, pm_mw q) (h1 : cl.contains (pm_key mi g) = true) (h2 : pm_callok mi g sk = true) (hR : pm_f mi ≤ R.frames ∧ pm_lo mi ≤ R.locals) :
    CallB R s args (pm_R (pm_o mi)) (g % 2048) (pm_y (g / 32768)) (pm_b (g / 32768)) (pm_L (g / 32768)) (pm_r (g / 32768)) (pm_ws (g / 32768)) (pm_rm (g / 32768) mc ms) mc ms (g / 2048 % 16) ∧ g / 32768 < 180 ∧ pm_sk (g / 32768) = sk := by
  have hg : g < 2 ^ 40 := Nat.le_of_ble_eq_true hb
  obtain ⟨e1, e2, e3, -, -, e6⟩ := pm_key_div mi g hg
  have hw := hcl _ (List.contains_iff_mem.mp h1)
  unfold pm_mw at hw
  rw [e1, e2, e3] at hw
  simp only [pm_callok, Bool.and_eq_true] at h2
  obtain ⟨⟨⟨⟨c1, c2⟩, c3⟩, c4⟩, c5⟩ := h2
  have hmj : g / 32768 < 180 := Nat.le_of_ble_eq_true c3
  have c1' : pm_f (g / 32768) < pm_f mi := Nat.le_of_ble_eq_true c1
  have c2' := Nat.le_of_ble_eq_true c2
  obtain ⟨m1, m2, m3, m4, m5, m6⟩ := pm_m_ok _ hmj
  refine ⟨callB_of _ C.2.2.2.2.2.2.2.1 (pm_ws_good _ hmj) rfl rfl rfl (sd_w C m3 rfl) (sd_w C hw rfl) ⟨?_, ?_, ?_⟩ ⟨?_, ?_⟩, hmj, Nat.eq_of_beq_eq_true c4⟩
  · rw [m4]; exact (pm_cls_ne _).1
  · rw [m4]; exact (pm_cls_ne _).2
  · rw [m5, Nat.eq_of_beq_eq_true c5]
  · show pm_f (g / 32768) + 1 ≤ R.frames
    omega
  · show 8 + (pm_L (g / 32768) + 11) + pm_lo (g / 32768) ≤ R.locals
    omega
end SD7

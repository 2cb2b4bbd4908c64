def lw_good : List Cond := lw_tbl.filter goodWord
theorem lw_good_in {w : Cond} (h : w ∈ lw_tbl) (g : goodWord w = true) : w ∈ lw_good := List.mem_filter.mpr ⟨h, g⟩
def pm_ws (mi : Nat) : List Cond := pm_cw mi :: lw_good
theorem pm_ws_good (mi : Nat) (hm : mi < 180) : GoodIn lw_good (pm_ws mi) := by
  intro w hw
  rcases List.mem_cons.mp hw with rfl | h
  · exact ⟨lw_good_in (pm_m_ok mi hm).1 rfl, good_of_word (w := pm_cw mi) rfl⟩
  · exact ⟨h, good_of_word (List.mem_filter.mp h).2⟩
def pm_tys (cA : Nat → ClassId) : List (ClassId × FieldType) := [(cA 100, .int), (cA 101, .byte), (cA 102, .boolean), (cA 103, .object RX9), (cA 104, .object RX3), (cA 105, .object RX5)]
def pm_tx (i : Nat) : String := (["strip", "cloth", "turn"] : List String).getD i ""
/-- the String constants: where they lie, what they hold -/
def pm_Sx (ad : Nat → Nat) (b0 : Nat) (s : State) : Prop := (∃ adV : Nat → Nat, vk_S 3 [5, 5, 4] [[115, 116, 114, 105, 112], [99, 108, 111, 116, 104], [116, 117, 114, 110]] ad adV (fun q => b0 ≤ q) s s.heap) ∧ (∀ i, i < 3 → vk_R RX6 (pm_si i) (pm_tx i) (ad i) s) ∧ va_Z "java/lang/String" "COMPACT_STRINGS" "Z" (.int 1) (fun q => b0 ≤ q) s s.heap ∧ va_Zq "jdk/internal/util/Preconditions" "SIOOBE_FORMATTER" "Ljava/util/function/BiFunction;" (fun q => b0 ≤ q) s s.heap
/-- arrays over the classes of objects -/
def pm_Ox (s : State) : Prop := va_AO RX9 s ∧ va_AO RX3 s ∧ va_AO RX5 s ∧ va_Nw (.castable "[B" "java/lang/Cloneable") s
def pm_Cx (b0 : Nat) (D : va_G) (cA : Nat → ClassId) (ad : Nat → Nat) (p : Program) (s : State) (m : MethodId) (args : Array Value) (meth : Method) (c : Code) (mi : Nat) : Prop :=
  p.tables.exec = Jvm.exec ∧ c.code = pm_b mi ∧ c.maxLocals = pm_L mi ∧ s.vm.findClass (pm_R (pm_o mi)) = some m.cls ∧ meth.sig.returnType = pm_r mi ∧ meth.locks = false ∧ (pm_sk mi = 2 → meth.name = "<init>") ∧ (∀ w ∈ lw_good, w.before args s = true) ∧ va_K D pm_vcl (pm_tys cA) s ∧ b0 ≤ s.heap.size ∧ mi < 180 ∧ pm_Sx ad b0 s ∧ pm_Ox s
def pm_A (b0 : Nat) : Nat → Prop := fun q => b0 ≤ q
theorem sd_len {n len : Nat} (h0 : n ≠ 0) (h : n = 0 ∨ n = len) : len = n := by omega
theorem sd_i8 {n : Int} (h1 : -128 ≤ n) (h2 : n < 128) : (Int8.ofInt n).toInt32 = Int32.ofInt n := by
  apply Int32.toInt_inj.mp
  rw [Int8.toInt_toInt32, Int8.toInt_ofInt_of_le (by omega) (by omega), Int32.toInt_ofInt_of_le (by omega) (by omega)]
theorem sd_i16 {n : Int} (h1 : -32768 ≤ n) (h2 : n < 32768) : (Int16.ofInt n).toInt32 = Int32.ofInt n := by
  apply Int32.toInt_inj.mp
  rw [Int16.toInt_toInt32, Int16.toInt_ofInt_of_le (by omega) (by omega), Int32.toInt_ofInt_of_le (by omega) (by omega)]
theorem pm_key_div (mi g : Nat) (h : g < 2 ^ 40) : pm_key mi g / 2 ^ 40 = pm_o mi ∧ pm_key mi g % 2 ^ 40 = g ∧ pm_key mi g % 2048 = g % 2048 ∧ pm_key mi g / 262144 % 16 = g / 262144 % 16 ∧ pm_key mi g / 2048 % 128 = g / 2048 % 128 ∧ pm_key mi g / 2048 % 16 = g / 2048 % 16 := by
  unfold pm_key
  generalize pm_o mi = o
  omega
theorem pm_fkey {mi g : Nat} (hb : Nat.blt g (2 ^ 40) = true) (h : pm_fl.contains (pm_key mi g) = true) : Cond.fieldLink (pm_R (pm_o mi)) (g % 2048) (pm_Tf (g / 262144 % 16) (g / 2048 % 128)).1 (pm_Tf (g / 262144 % 16) (g / 2048 % 128)).2.1 (pm_Tf (g / 262144 % 16) (g / 2048 % 128)).2.2.1 ∈ lw_tbl ∧ g / 262144 % 16 < 14 ∧ g / 2048 % 128 < pm_N (g / 262144 % 16) ∧ pm_kd (pm_ty (g / 262144 % 16) (g / 2048 % 128)) = g / 4194304 := by
  have hg : g < 2 ^ 40 := Nat.le_of_ble_eq_true hb
  obtain ⟨e1, e2, e3, e4, e5, e6⟩ := pm_key_div mi g hg
  have q := pm_fl_ok _ (List.contains_iff_mem.mp h)
  unfold pm_fW pm_fw at q
  rw [e1, e2, e3, e4, e5] at q
  exact q
section SD
variable {b0 : Nat} {D : va_G} {cA : Nat → ClassId} {ad : Nat → Nat} {p : Program} {l : Launch} {e : Env} {R : Room} {s : State} {m : MethodId} {args : Array Value} {below : List Frame} {meth : Method} {c : Code} {H : Heap} {locs : List Loc} {cells slots : Nat} {Q : State → Prop} {mi pc : Nat} {ls : Array Slot} {rest : List Value} {h : pm_H}
theorem sd_w (C : pm_Cx b0 D cA ad p s m args meth c mi) {w : Cond} (hw : w ∈ lw_tbl) (g : goodWord w = true) : w.before args s = true := C.2.2.2.2.2.2.2.1 w (lw_good_in hw g)
theorem sd_in (ci : Nat) (hc : ci < 14) : ∀ w ∈ u_ws (pm_R ci) (pm_Tf ci) (pm_N ci), w ∈ lw_good := by
  intro w hw
  refine lw_good_in (pm_in ci hc w hw) ?_
  obtain ⟨k, -, rfl⟩ := List.mem_map.mp hw
  unfold u_lay
  split <;> rfl
theorem sd_get (C : pm_Cx b0 D cA ad p s m args meth c mi) (r : pm_Rel b0 D cA h H) {g a : Nat} (hT : zT h a = g / 262144 % 16) (hlk : pm_lk mi (.getfield g) = true) (hd : decode (pm_b mi) pc = .ok (.getfield (g % 2048), 3))
    (k : W p l e R s m args below meth c H locs cells slots Q (F0 m (pc + 3) ls (pm_mv b0 ad (pm_val h (g / 4194304) a (g / 2048 % 128)) :: rest))) : W p l e R s m args below meth c H locs cells slots Q (F0 m pc ls (.ref (b0 + a) :: rest)) := by
  simp only [pm_lk, Bool.and_eq_true] at hlk
  obtain ⟨hw, hc, hk, hkd⟩ := pm_fkey hlk.1 hlk.2
  obtain ⟨hx, hb, -, hown, -, -, -, hts, hK, -⟩ := id C
  obtain ⟨cell, q1, q2, q3, q4⟩ := r.obj hT hc
  obtain ⟨hS, hfc, kC, hkC, hkind⟩ := hK.1 _ _ (pm_vcl_at _ hc)
  obtain ⟨cf, kf, fi, f, hi, hsl⟩ := hS _ hk
  refine W.getf hx hb hown (sd_w C hw rfl) hi (u_facts hfc hkC (u_lays hts (sd_in _ hc) hk) hi).1 q1 (by rw [q3]; exact fun h => by cases h) (v := pm_mv b0 ad (pm_val h (g / 4194304) a (g / 2048 % 128))) ?_ rfl rfl hd k
  rw [hsl, q4 _ hk]
  show some (pm_fv b0 h a (g / 2048 % 128) (pm_kd (pm_ty (g / 262144 % 16) (g / 2048 % 128)))) = _
  rw [hkd]
  exact congrArg some (pm_fv_val b0 ad h a _ _)
theorem sd_apart (C : pm_Cx b0 D cA ad p s m args meth c mi) {ci : Nat} (hc : ci < 14) : ∀ x y, x < pm_N ci → y < pm_N ci → x ≠ y → (D.2 ci) x ≠ (D.2 ci) y :=
  va_apart (own := pm_R ci) C.2.2.2.2.2.2.2.1 (sd_in ci hc) (pm_ty ci) (pm_tyok ci hc) (pm_nm ci hc) C.2.2.2.2.2.2.2.2.1 (pm_vcl_at ci hc)
theorem sd_put (C : pm_Cx b0 D cA ad p s m args meth c mi) (r : pm_Rel b0 D cA h H) (hS0 : va_S (pm_A b0) s.heap H locs) {g a : Nat} {h1 : pm_H} {v : Value} (hT : zT h a = g / 262144 % 16) (hlk : pm_lk mi (.putfield g) = true) (hd : decode (pm_b mi) pc = .ok (.putfield (g % 2048), 3)) (hn : narrow (pm_ty (g / 262144 % 16) (g / 2048 % 128)) v = v) (hf : fits (pm_ty (g / 262144 % 16) (g / 2048 % 128)) v = true)
    (up : ∀ (cell : Cell) (H' : Heap), (∀ x y, x < pm_N (g / 262144 % 16) → y < pm_N (g / 262144 % 16) → x ≠ y → (D.2 (g / 262144 % 16)) x ≠ (D.2 (g / 262144 % 16)) y) → H[b0 + a]? = some cell → H'.size = H.size → H'[b0 + a]? = some (cell.setSlot ((D.2 (g / 262144 % 16)) (g / 2048 % 128)) v) → (∀ q, q ≠ b0 + a → H'[q]? = H[q]?) → pm_Rel b0 D cA h1 H')
    (kk : ∀ (H1 : Heap) (locs1 : List Loc), pm_Rel b0 D cA h1 H1 → va_S (pm_A b0) s.heap H1 locs1 → W p l e R s m args below meth c H1 locs1 cells slots Q (F0 m (pc + 3) ls rest)) : W p l e R s m args below meth c H locs cells slots Q (F0 m pc ls (v :: .ref (b0 + a) :: rest)) := by
  simp only [pm_lk, Bool.and_eq_true] at hlk
  obtain ⟨hw, hc, hk, hkd⟩ := pm_fkey hlk.1.1 hlk.1.2
  obtain ⟨hx, hb, -, hown, -, -, hini, hts, hK, -⟩ := id C
  obtain ⟨cell, q1, q2, q3, q4⟩ := r.obj hT hc
  obtain ⟨hS, hfc, kC, hkC, hkind⟩ := hK.1 _ _ (pm_vcl_at _ hc)
  obtain ⟨cf, kf, fi, f, hi, hsl⟩ := hS _ hk
  have hst := (u_facts hfc hkC (u_lays hts (sd_in _ hc) hk) hi).1
  have hlay := hts _ (sd_in _ hc _ (u_in_lay hk))
  have hA : pm_A b0 (b0 + a) := Nat.le_add_right _ _
  unfold u_lay at hlay
  cases hfin : (pm_Tf (g / 262144 % 16) (g / 2048 % 128)).2.2.2 with
  | false =>
    rw [if_neg (by rw [hfin]; decide)] at hlay
    have h6 := u_store hfc hkC hkind hlay hi (pm_tyok _ hc _ hk) hn hf
    refine W.putK hx hb (f := f) ⟨hown, sd_w C hw rfl, ⟨_, _, _, hi⟩, hst⟩ (by rw [q2]; exact h6) q1 q3 (by rw [hsl]; exact k2_hasslot (q4 _ hk)) rfl rfl hd fun H' e1 e2 e3 => ?_
    rw [hsl] at e1 ⊢
    exact kk H' _ (up cell H' (sd_apart C hc) q1 e2 e1 e3) (hS0.put e2 e3 hA)
  | true =>
    rw [if_pos hfin] at hlay
    rw [hfin] at hlk
    have h9 : Nat.beq (g / 262144 % 16) (pm_o mi) = true ∧ Nat.beq (pm_sk mi) 2 = true := by simpa using hlk.2
    have h10 : g / 262144 % 16 = pm_o mi := Nat.eq_of_beq_eq_true h9.1
    have hcf : m.cls = cf := by
      obtain ⟨_, _, c', _, _, _, -, -, hf', -, -, -, hown2, -⟩ := Cond.laysFinal_spec hlay
      have e1 : c' = cf := by have := hi.symm.trans hf'; simp at this; exact this.1.symm
      rw [pm_own _ hc _ hk, h10] at hown2
      rw [← e1]; exact Option.some.inj (hown.symm.trans hown2)
    have h6 := u_fits hfc hkC hkind (Or.inr hlay) hi (pm_tyok _ hc _ hk) hn hf
    refine W.putFinK hx hb hown (sd_w C hw rfl) hi hst hcf (hini (Nat.eq_of_beq_eq_true h9.2)) (by rw [q2]; exact h6) q1 q3 (by rw [hsl]; exact k2_hasslot (q4 _ hk)) rfl rfl hd fun H' e1 e2 e3 => ?_
    rw [hsl] at e1 ⊢
    exact kk H' _ (up cell H' (sd_apart C hc) q1 e2 e1 e3) (hS0.put e2 e3 hA)
end SD

section SD5
variable {b0 : Nat} {D : va_G} {cA : Nat → ClassId} {ad : Nat → Nat} {p : Program} {l : Launch} {e : Env} {R : Room} {s : State} {m : MethodId} {args : Array Value} {below : List Frame} {meth : Method} {c : Code} {H : Heap} {locs : List Loc} {cells slots : Nat} {Q : State → Prop} {mi pc : Nat} {ls : Array Slot} {rest : List Value} {h : pm_H}
theorem sd_sum (hrok : pm_rok rest = true) : ((rest.map (pm_mv b0 ad)).map fun v => v.category).sum ≤ 8 := by
  rw [List.map_map]
  have : (fun v => Value.category v) ∘ pm_mv b0 ad = fun v => v.category := by funext v; exact pm_mv_cat b0 ad v
  rw [this]
  exact Nat.le_of_ble_eq_true hrok
theorem sd_clone (C : pm_Cx b0 D cA ad p s m args meth c mi) (r : pm_Rel b0 D cA h H) (hS : va_S (pm_A b0) s.heap H locs) (hls : ls.size = pm_L mi) {a : Nat} (hmi : pm_o mi = 14) (hd : decode (pm_b mi) pc = .ok (.invokevirtual 310, 3))
    (hTa : zT h a = 101) (hby : ∀ j, (zI h a j).toInt8.toInt32 = zI h a j) (hR : 1 ≤ R.frames ∧ 40 ≤ R.locals) (hrok : pm_rok rest = true) (hc1 : cells + 1 ≤ R.cells) (hs1 : slots + zN h a ≤ R.slots)
    (kk : ∀ H1 : Heap, pm_Rel b0 D cA (yA (yN h 101 (zN h a) (zN h a)) (zn h) (zI h a)) H1 → va_S (pm_A b0) s.heap H1 locs → W p l e R s m args below meth c H1 locs (cells + 1) (slots + zN h a) Q (F0 m (pc + 3) ls (.ref (b0 + zn h) :: rest.map (pm_mv b0 ad)))) : W p l e R s m args below meth c H locs cells slots Q (F0 m pc ls (.ref (b0 + a) :: rest.map (pm_mv b0 ad))) := by
  obtain ⟨hx, hb, hml, hown, -, -, -, hts, hK, -, -, -, -, -, -, hcl⟩ := id C
  rw [hmi] at hown
  have hsum := sd_sum (b0 := b0) (ad := ad) hrok
  have hnm : s.vm.findClass "[B" = some (cA 101) := (hK.2 1 _ rfl).2
  obtain ⟨w1, w2, w3, w4, w5, w6, w7⟩ := pm_cln_ws
  obtain ⟨c0, t0', f1, f2, f3⟩ := Cond.castable_spec (va_Nw.use (A := args) rfl hcl)
  cases hnm.symm.trans f1
  have hcell := r.ints hTa (by omega)
  generalize hce : arrV (cA 101) (zN h a) (fun j => Value.int (zI h a j)) = cell at hcell
  have hsz : cell.slots.size = zN h a := by rw [← hce]; exact arrV_size _ _ _
  have hvm0 : cell.vm = .none := by rw [← hce]; rfl
  have hcl0 : cell.cls = cA 101 := by rw [← hce]; rfl
  have hcellE : ({ cls := cell.cls, slots := cell.slots } : Cell) = cell := by rw [← hce]; rfl
  have hfit : ∀ (i : Nat) (v : Value), cell.slots[i]? = some v → fits .byte v = true := by
    intro i v hv
    by_cases hi : i < zN h a
    · rw [← hce, arrV_read _ _ hi] at hv
      cases hv
      rw [← hby i]
      exact pk_fb _
    · rw [Array.getElem?_eq_none (by rw [hsz]; omega)] at hv
      cases hv
  intro T hT X
  have hcellT : T.heap[b0 + a]? = some cell := by rw [hT]; exact hcell
  obtain ⟨-, kA, hkA, comp, hkind⟩ := State.isArrayOf_alike X.warmed.alike ((hK.2 1 _ rfl).1 0 (fun _ => .null))
  obtain ⟨-, kS, hkS, compS, hkindS⟩ := (hK.2 1 _ rfl).1 0 (fun _ => .null)
  obtain ⟨vm', X', st⟩ := X.cloneArray hx hown (sd_w C w1 rfl) (sd_w C w2 rfl) (sd_w C w3 rfl) (sd_w C w4 rfl) (sd_w C w5 rfl) (a := b0 + a) (cell := cell) hcellT (fun k h => by rw [hvm0] at h; cases h) (by rw [hvm0]; exact fun h => by cases h) (by rw [hcl0]; exact hnm) f2 (by rw [hcl0]; exact f3)
    (fun i v hv => by
      rw [hcl0]
      have hk' : T.vm.classes[cA 101]? = some kA := hkA
      simpa [State.fitsSlot, State.slotType?, hk', hkind] using hfit i v hv)
    (g := F0 m pc ls (.ref (b0 + a) :: rest.map (pm_mv b0 ad))) rfl (by show ls.size = _; rw [hls, hml]) rfl (by rw [hb]; exact hd) hR.1 (by show 2 * 0 + _ + 14 ≤ _; omega) hc1 (by rw [hsz]; exact hs1) (hloader := by rw [hcl0]; exact Vm.clonesLoader_of_array hkS hkindS)
  rw [hcellE, hsz] at X'
  generalize hH1 : H.push cell = H1
  have z1 : H1.size = H.size + 1 := by rw [← hH1, Array.size_push]
  have e1 : H1[H.size]? = some cell := by rw [← hH1, Array.getElem?_push_size]
  have o1 : ∀ q : Nat, q < H.size → H1[q]? = H[q]? := fun q hq => by rw [← hH1, Array.getElem?_push, if_neg (Nat.ne_of_lt hq)]
  obtain ⟨t, b1, b2⟩ := kk H1 (r.new (fun b e => va_upN _ _ e) (fun b e => va_upN _ _ e) rfl (fun b e => (zI_yAn _ _ e).trans (va_upN _ _ e)) (fun b e => va_upN _ _ e) (fun b e => va_upN _ _ e) z1 o1 (Or.inr (Or.inl (by
      show (zT (yN h 101 (zN h a) (zN h a)) (zn h) = 100 ∨ zT (yN h 101 (zN h a) (zN h a)) (zn h) = 101 ∨ zT (yN h 101 (zN h a) (zN h a)) (zn h) = 102) ∧ H1[b0 + zn h]? = some (arrV (cA (zT (yN h 101 (zN h a) (zN h a)) (zn h))) (zN (yN h 101 (zN h a) (zN h a)) (zn h)) (fun j => .int (zI (yA (yN h 101 (zN h a) (zN h a)) (zn h) (zI h a)) (zn h) j)))
      rw [yN_T, yN_N, zI_yAs, hce, ← r.1, e1]
      exact ⟨by omega, rfl⟩)))) ⟨Nat.le_trans hS.1 (by omega), fun y h1 h2 => (o1 y (Nat.lt_of_lt_of_le h1 hS.1)).trans (hS.2.1 y h1 h2), hS.2.2⟩
    ((T.setVm vm').pushCell cell) (by rw [← hH1, ← hT]; rfl) X'
  refine ⟨t, st t ?_, b2⟩
  rw [hcellE, hT, r.1]
  exact b1
theorem sd_cast (C : pm_Cx b0 D cA ad p s m args meth c mi) (r : pm_Rel b0 D cA h H) {a : Nat} (hmi : pm_o mi = 14) (hd : decode (pm_b mi) pc = .ok (.checkcast 311, 3)) (hTa : zT h a = 101)
    (k : W p l e R s m args below meth c H locs cells slots Q (F0 m (pc + 3) ls (.ref (b0 + a) :: rest))) : W p l e R s m args below meth c H locs cells slots Q (F0 m pc ls (.ref (b0 + a) :: rest)) := by
  obtain ⟨hx, hb, hml, hown, -, -, -, hts, hK, -⟩ := id C
  rw [hmi] at hown
  have hP : va_P D pm_vcl [(b0 + a, .inl (cA 101, (zN h a, .inl (zI h a))))] H := by
    intro k q hq
    have hz : k < 1 := (List.getElem?_eq_some_iff.mp hq).1
    rw [show k = 0 by omega] at hq
    cases hq
    exact r.ints hTa (by omega)
  exact va_castA hx hb hown (sd_w C pm_cln_ws.2.2.2.2.2.2 rfl) hP 0 rfl (hK.2 1 _ rfl).2 hd k
theorem sd_obj (C : pm_Cx b0 D cA ad p s m args meth c mi) (hls : ls.size = pm_L mi) {g a : Nat} (hlk : pm_lk mi (.getstatic g) = true) (hd : decode (pm_b mi) pc = .ok (.invokespecial g, 3)) (hR : pm_f mi ≤ R.frames ∧ pm_lo mi ≤ R.locals) (hrok : pm_rok rest = true)
    (k : W p l e R s m args below meth c H locs cells slots Q (F0 m (pc + 3) ls (rest.map (pm_mv b0 ad)))) : W p l e R s m args below meth c H locs cells slots Q (F0 m pc ls (.ref (b0 + a) :: rest.map (pm_mv b0 ad))) := by
  simp only [pm_lk, Bool.and_eq_true] at hlk
  have hg : g < 2048 := Nat.le_of_ble_eq_true hlk.1.1.1
  obtain ⟨e1, e2, e3, -⟩ := pm_key_div mi g (by omega)
  have hw := pm_ol_ok _ (List.contains_iff_mem.mp hlk.1.1.2)
  unfold pm_oW at hw
  rw [e1, e3, Nat.mod_eq_of_lt hg] at hw
  have hf1 : 1 ≤ pm_f mi := Nat.le_of_ble_eq_true hlk.1.2
  have hl1 : 20 ≤ pm_lo mi := Nat.le_of_ble_eq_true hlk.2
  obtain ⟨hx, hb, hml, hown, -⟩ := id C
  have hsum := sd_sum (b0 := b0) (ad := ad) hrok
  exact W.objInit hx hb hown (sd_w C hw rfl) (sd_w C pm_obj_ws.1 rfl) (sd_w C pm_obj_ws.2 rfl) rfl (by show ls.size = _; rw [hls, hml]) rfl hd (by omega) (by show 2 * 0 + _ + 12 ≤ _; omega) k
theorem sd_mx (C : pm_Cx b0 D cA ad p s m args meth c mi) (hls : ls.size = pm_L mi) {g : Nat} {x y : Int32} (hlk : pm_lk mi (.fload g) = true) (hd : decode (pm_b mi) pc = .ok (.invokestatic g, 3)) (hR : pm_f mi ≤ R.frames ∧ pm_lo mi ≤ R.locals) (hcs : cells ≤ R.cells ∧ slots ≤ R.slots) (hrok : pm_rok rest = true)
    (k : W p l e R s m args below meth c H locs cells slots Q (F0 m (pc + 3) ls (.int (if x < y then y else x) :: rest.map (pm_mv b0 ad)))) : W p l e R s m args below meth c H locs cells slots Q (F0 m pc ls (.int y :: .int x :: rest.map (pm_mv b0 ad))) := by
  simp only [pm_lk, Bool.and_eq_true] at hlk
  have hg : g < 2048 := Nat.le_of_ble_eq_true hlk.1.1.1
  obtain ⟨e1, e2, e3, -⟩ := pm_key_div mi g (by omega)
  have hw := pm_Ml_ok _ (List.contains_iff_mem.mp hlk.1.1.2)
  unfold pm_wM at hw
  rw [e1, e3, Nat.mod_eq_of_lt hg] at hw
  have hf1 : 1 ≤ pm_f mi := Nat.le_of_ble_eq_true hlk.1.2
  have hl1 : 21 ≤ pm_lo mi := Nat.le_of_ble_eq_true hlk.2
  obtain ⟨hx, hb, hml, hown, -⟩ := id C
  have hsum := sd_sum (b0 := b0) (ad := ad) hrok
  exact va_mmax hx hb (by rw [hml, hls]) hown (sd_w C hw rfl) (sd_w C pm_max_ws.1 rfl) (sd_w C pm_math_i rfl) (sd_w C pm_max_ws.2 rfl) (by omega) (by omega) hcs.1 hcs.2 hd k
theorem sd_mn (C : pm_Cx b0 D cA ad p s m args meth c mi) (hls : ls.size = pm_L mi) {g : Nat} {x y : Int32} (hlk : pm_lk mi (.dload g) = true) (hd : decode (pm_b mi) pc = .ok (.invokestatic g, 3)) (hR : pm_f mi ≤ R.frames ∧ pm_lo mi ≤ R.locals) (hcs : cells ≤ R.cells ∧ slots ≤ R.slots) (hrok : pm_rok rest = true)
    (k : W p l e R s m args below meth c H locs cells slots Q (F0 m (pc + 3) ls (.int (if y < x then y else x) :: rest.map (pm_mv b0 ad)))) : W p l e R s m args below meth c H locs cells slots Q (F0 m pc ls (.int y :: .int x :: rest.map (pm_mv b0 ad))) := by
  simp only [pm_lk, Bool.and_eq_true] at hlk
  have hg : g < 2048 := Nat.le_of_ble_eq_true hlk.1.1.1
  obtain ⟨e1, e2, e3, -⟩ := pm_key_div mi g (by omega)
  have hw := pm_Nl_ok _ (List.contains_iff_mem.mp hlk.1.1.2)
  unfold pm_wm at hw
  rw [e1, e3, Nat.mod_eq_of_lt hg] at hw
  have hf1 : 1 ≤ pm_f mi := Nat.le_of_ble_eq_true hlk.1.2
  have hl1 : 21 ≤ pm_lo mi := Nat.le_of_ble_eq_true hlk.2
  obtain ⟨hx, hb, hml, hown, -⟩ := id C
  have hsum := sd_sum (b0 := b0) (ad := ad) hrok
  exact va_mmin hx hb (by rw [hml, hls]) hown (sd_w C hw rfl) (sd_w C pm_min_ws.1 rfl) (sd_w C pm_math_i rfl) (sd_w C pm_min_ws.2 rfl) (by omega) (by omega) hcs.1 hcs.2 hd k
theorem sd_ma (C : pm_Cx b0 D cA ad p s m args meth c mi) (hls : ls.size = pm_L mi) {g : Nat} {x : Int32} (hlk : pm_lk mi (.fstore g) = true) (hd : decode (pm_b mi) pc = .ok (.invokestatic g, 3)) (hR : pm_f mi ≤ R.frames ∧ pm_lo mi ≤ R.locals) (hcs : cells ≤ R.cells ∧ slots ≤ R.slots) (hrok : pm_rok rest = true)
    (k : W p l e R s m args below meth c H locs cells slots Q (F0 m (pc + 3) ls (.int (if 0 ≤ x then x else 0 - x) :: rest.map (pm_mv b0 ad)))) : W p l e R s m args below meth c H locs cells slots Q (F0 m pc ls (.int x :: rest.map (pm_mv b0 ad))) := by
  simp only [pm_lk, Bool.and_eq_true] at hlk
  have hg : g < 2048 := Nat.le_of_ble_eq_true hlk.1.1.1
  obtain ⟨e1, e2, e3, -⟩ := pm_key_div mi g (by omega)
  have hw := pm_Al_ok _ (List.contains_iff_mem.mp hlk.1.1.2)
  unfold pm_wa at hw
  rw [e1, e3, Nat.mod_eq_of_lt hg] at hw
  have hf1 : 1 ≤ pm_f mi := Nat.le_of_ble_eq_true hlk.1.2
  have hl1 : 21 ≤ pm_lo mi := Nat.le_of_ble_eq_true hlk.2
  obtain ⟨hx, hb, hml, hown, -⟩ := id C
  have hsum := sd_sum (b0 := b0) (ad := ad) hrok
  exact va_mabs hx hb (by rw [hml, hls]) hown (sd_w C hw rfl) (sd_w C pm_abs_ws.1 rfl) (sd_w C pm_math_i rfl) (sd_w C pm_abs_ws.2 rfl) (by omega) (by omega) hcs.1 hcs.2 hd k
/-- what needs the stack alone -/
theorem sd_op (C : pm_Cx b0 D cA ad p s m args meth c mi) {ins : Instr} {st st' : List Value} {len : Nat} (ho : pm_op ins st = some st') (hd : decode (pm_b mi) pc = .ok (pm_ur pc ins, len)) (hln : pm_ln ins = 0 ∨ pm_ln ins = len) (hlk : pm_lk mi ins = true)
    (k : W p l e R s m args below meth c H locs cells slots Q (F0 m (pc + len) ls (st'.map (pm_mv b0 ad)))) : W p l e R s m args below meth c H locs cells slots Q (F0 m pc ls (st.map (pm_mv b0 ad))) := by
  obtain ⟨hx, hb, hml, hown, -, -, -, hts, hK, -, -, hSx, -⟩ := id C
  cases ins
  case iconst n => obtain rfl := sd_len (n := 1) (by decide) hln; cases ho; exact lv_iconst hx hb hd rfl k
  case bipush n =>
    obtain rfl := sd_len (n := 2) (by decide) hln; cases ho
    simp only [pm_lk, Bool.and_eq_true, decide_eq_true_eq] at hlk
    exact lv_bipush hx hb hd (sd_i8 hlk.1 hlk.2) k
  case sipush n =>
    obtain rfl := sd_len (n := 3) (by decide) hln; cases ho
    simp only [pm_lk, Bool.and_eq_true, decide_eq_true_eq] at hlk
    exact lv_sipush hx hb hd (sd_i16 hlk.1 hlk.2) k
  case lconst n => obtain rfl := sd_len (n := 1) (by decide) hln; cases ho; exact lv_lconst hx hb hd rfl k
  case aconst_null => obtain rfl := sd_len (n := 1) (by decide) hln; cases ho; exact lv_null hx hb hd k
  case ldc g =>
    obtain rfl := sd_len (n := 2) (by decide) hln
    simp only [pm_op] at ho
    simp only [pm_lk, Bool.and_eq_true, Bool.or_eq_true] at hlk
    cases hg : Nat.blt g 204800 with
    | true =>
      rw [hg] at ho
      cases ho
      have hg' : g < 204800 := Nat.le_of_ble_eq_true hg
      have hk : pm_cl.contains (pm_key mi g) = true := by
        rcases hlk.2 with q | q
        · have := Nat.le_of_ble_eq_true q.1.1.1
          omega
        · exact q.2
      obtain ⟨e1, e2, e3, -⟩ := pm_key_div mi g (by omega)
      have hw := pm_cl_ok _ (List.contains_iff_mem.mp hk)
      unfold pm_cW at hw
      rw [e1, e2, e3] at hw
      exact lv_ldc hx hb hown (sd_w C hw rfl) hd k
    | false =>
      rw [hg] at ho
      cases ho
      have hg' : ¬ g < 204800 := fun q => by rw [show Nat.blt g 204800 = true from Nat.ble_eq_true_of_le q] at hg; cases hg
      obtain ⟨q1, q2, q3⟩ : pm_o mi = 6 ∧ g / 2048 - 100 < 3 ∧ g % 2048 = pm_si (g / 2048 - 100) := by
        rcases hlk.2 with q | q
        · exact ⟨Nat.eq_of_beq_eq_true q.1.1.2, Nat.le_of_ble_eq_true q.1.2, Nat.eq_of_beq_eq_true q.2⟩
        · have : g < 204800 := Nat.le_of_ble_eq_true q.1
          omega
      rw [q1] at hown
      have hd2 : decode (pm_b mi) pc = .ok (.ldc (pm_si (g / 2048 - 100)), 2) := by rw [← q3]; exact hd
      exact va_ldcS hx hb hown (hSx.2.1 _ q2) hd2 k
  case ldc_w g =>
    obtain rfl := sd_len (n := 3) (by decide) hln; cases ho
    simp only [pm_lk, Bool.and_eq_true] at hlk
    obtain ⟨e1, e2, e3, -⟩ := pm_key_div mi g (Nat.le_of_ble_eq_true hlk.1)
    have hw := pm_cl_ok _ (List.contains_iff_mem.mp hlk.2)
    unfold pm_cW at hw
    rw [e1, e2, e3] at hw
    exact lv_ldcw hx hb hown (sd_w C hw rfl) hd k
  case ldc2_w g =>
    obtain rfl := sd_len (n := 3) (by decide) hln; cases ho
    simp only [pm_lk, Bool.and_eq_true] at hlk
    obtain ⟨e1, e2, e3, -⟩ := pm_key_div mi g (Nat.le_of_ble_eq_true hlk.1)
    have hw := pm_jl_ok _ (List.contains_iff_mem.mp hlk.2)
    unfold pm_jW at hw
    rw [e1, e2, e3] at hw
    exact lv_ldc2 hx hb hown (sd_w C hw rfl) hd k
  case iadd => obtain rfl := sd_len (n := 1) (by decide) hln; simp only [pm_op] at ho; split at ho <;> cases ho; exact lv_iadd hx hb hd k
  case isub => obtain rfl := sd_len (n := 1) (by decide) hln; simp only [pm_op] at ho; split at ho <;> cases ho; exact lv_isub hx hb hd k
  case imul => obtain rfl := sd_len (n := 1) (by decide) hln; simp only [pm_op] at ho; split at ho <;> cases ho; exact lv_imul hx hb hd k
  case iand => obtain rfl := sd_len (n := 1) (by decide) hln; simp only [pm_op] at ho; split at ho <;> cases ho; exact lv_iand hx hb hd k
  case ior => obtain rfl := sd_len (n := 1) (by decide) hln; simp only [pm_op] at ho; split at ho <;> cases ho; exact lv_ior hx hb hd k
  case ishl => obtain rfl := sd_len (n := 1) (by decide) hln; simp only [pm_op] at ho; split at ho <;> cases ho; exact lv_ishl hx hb hd k
  case ishr => obtain rfl := sd_len (n := 1) (by decide) hln; simp only [pm_op] at ho; split at ho <;> cases ho; exact lv_ishr hx hb hd k
  case ineg => obtain rfl := sd_len (n := 1) (by decide) hln; simp only [pm_op] at ho; split at ho <;> cases ho; exact lv_ineg hx hb hd k
  case i2l => obtain rfl := sd_len (n := 1) (by decide) hln; simp only [pm_op] at ho; split at ho <;> cases ho; exact lv_i2l hx hb hd rfl k
  case l2i => obtain rfl := sd_len (n := 1) (by decide) hln; simp only [pm_op] at ho; split at ho <;> cases ho; exact lv_l2i hx hb hd rfl k
  case i2b => obtain rfl := sd_len (n := 1) (by decide) hln; simp only [pm_op] at ho; split at ho <;> cases ho; exact lv_i2b hx hb hd rfl k
  case ladd => obtain rfl := sd_len (n := 1) (by decide) hln; simp only [pm_op] at ho; split at ho <;> cases ho; exact lv_ladd hx hb hd k
  case lsub => obtain rfl := sd_len (n := 1) (by decide) hln; simp only [pm_op] at ho; split at ho <;> cases ho; exact lv_lsub hx hb hd k
  case lmul => obtain rfl := sd_len (n := 1) (by decide) hln; simp only [pm_op] at ho; split at ho <;> cases ho; exact lv_lmul hx hb hd k
  case lcmp => obtain rfl := sd_len (n := 1) (by decide) hln; simp only [pm_op] at ho; split at ho <;> cases ho; exact W.lcmp hx hb hd k
  case dup => obtain rfl := sd_len (n := 1) (by decide) hln; simp only [pm_op] at ho; split at ho <;> cases ho <;> exact lv_dup hx hb hd rfl k
  case dup2 => obtain rfl := sd_len (n := 1) (by decide) hln; simp only [pm_op] at ho; split at ho <;> cases ho; exact lv_dup2_11 hx hb hd rfl rfl k
  all_goals exact absurd (show (none : Option (List Value)) = some st' from ho) (by simp)
end SD5

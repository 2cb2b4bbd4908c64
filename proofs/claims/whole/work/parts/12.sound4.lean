theorem pm_Rel.row {b0 : Nat} {D : va_G} {cA : Nat → ClassId} {h : pm_H} {H H' : Heap} {a t : Nat} {f : Nat → Int32} (r : pm_Rel b0 D cA h H) (hT : zT h a = t) (ht : t = 100 ∨ t = 101 ∨ t = 102) (e : H'[b0 + a]? = some (arrV (cA t) (zN h a) (fun j => .int (f j)))) (z : H'.size = H.size) (o : ∀ q, q ≠ b0 + a → H'[q]? = H[q]?) : pm_Rel b0 D cA (yA h a f) H' := by
  refine r.set (a := a) (fun _ => rfl) (fun _ => rfl) rfl (fun b hb => zI_yAn h _ hb) (fun _ _ => rfl) (fun _ _ => rfl) z o (fun _ => Or.inr (Or.inl ?_))
  show (zT h a = 100 ∨ zT h a = 101 ∨ zT h a = 102) ∧ H'[b0 + a]? = some (arrV (cA (zT h a)) (zN h a) (fun j => .int (zI (yA h a f) a j)))
  rw [hT, e, zI_yAs]
  exact ⟨ht, rfl⟩
section SD4
variable {b0 : Nat} {D : va_G} {cA : Nat → ClassId} {ad : Nat → Nat} {p : Program} {l : Launch} {e : Env} {R : Room} {s : State} {m : MethodId} {args : Array Value} {below : List Frame} {meth : Method} {c : Code} {H : Heap} {locs : List Loc} {cells slots : Nat} {Q : State → Prop} {mi pc : Nat} {ls : Array Slot} {rest : List Value} {h : pm_H}
theorem sd_nn (z : Int32) (hz : ¬ z < 0) : z.toInt = (z.toNatClampNeg : Int) := by
  have hz0 : (0 : Int) ≤ z.toInt := by
    have := Int32.not_lt.mp hz
    simpa using Int32.le_iff_toInt_le.mp this
  show z.toInt = ((z.toInt.toNat : Nat) : Int)
  omega
theorem sd_copy (C : pm_Cx b0 D cA ad p s m args meth c mi) (r : pm_Rel b0 D cA h H) (hS : va_S (pm_A b0) s.heap H locs) (hls : ls.size = pm_L mi) {g a b : Nat} {sp dp n : Int32} (hlk : pm_lk mi (.invokedynamic g) = true) (hd : decode (pm_b mi) pc = .ok (.invokestatic g, 3))
    (hTa : zT h a = 100 ∨ zT h a = 101 ∧ ∀ j, (zI h a j).toInt8.toInt32 = zI h a j) (hTb : zT h b = zT h a) (h1 : ¬ sp < 0) (h2 : ¬ dp < 0) (h3 : ¬ n < 0) (h4 : sp.toNatClampNeg + n.toNatClampNeg ≤ zN h a) (h5 : dp.toNatClampNeg + n.toNatClampNeg ≤ zN h b) (hR : pm_f mi ≤ R.frames ∧ pm_lo mi ≤ R.locals) (hrok : pm_rok rest = true)
    (kk : ∀ (H1 : Heap) (locs1 : List Loc), pm_Rel b0 D cA (yA h b (va_cpy (zI h a) (zI h b) sp.toNatClampNeg dp.toNatClampNeg n.toNatClampNeg)) H1 → va_S (pm_A b0) s.heap H1 locs1 → W p l e R s m args below meth c H1 locs1 cells slots Q (F0 m (pc + 3) ls (rest.map (pm_mv b0 ad)))) : W p l e R s m args below meth c H locs cells slots Q (F0 m pc ls (.int n :: .int dp :: .ref (b0 + b) :: .int sp :: .ref (b0 + a) :: rest.map (pm_mv b0 ad))) := by
  simp only [pm_lk, Bool.and_eq_true] at hlk
  have hg : g < 2048 := Nat.le_of_ble_eq_true hlk.1.1.1
  obtain ⟨e1, e2, e3, -⟩ := pm_key_div mi g (by omega)
  have hw := pm_xl_ok _ (List.contains_iff_mem.mp hlk.1.1.2)
  unfold pm_xW at hw
  rw [e1, e3, Nat.mod_eq_of_lt hg] at hw
  have hf1 : 1 ≤ pm_f mi := Nat.le_of_ble_eq_true hlk.1.2
  have hl1 : 40 ≤ pm_lo mi := Nat.le_of_ble_eq_true hlk.2
  obtain ⟨hx, hb, hml, hown, -, -, -, hts, hK, -⟩ := id C
  have hsum : ((rest.map (pm_mv b0 ad)).map fun v => v.category).sum ≤ 8 := by
    rw [List.map_map]
    have : (fun v => Value.category v) ∘ pm_mv b0 ad = fun v => v.category := by funext v; exact pm_mv_cat b0 ad v
    rw [this]
    exact Nat.le_of_ble_eq_true hrok
  have main : ∀ (t0 t : Nat) (ty : FieldType), zT h a = t → (t = 100 ∨ t = 101 ∨ t = 102) → (pm_tys cA)[t0]? = some (cA t, ty) → refKind ty = false → (∀ j, fits ty (.int (zI h a j)) = true) → W p l e R s m args below meth c H locs cells slots Q (F0 m pc ls (.int n :: .int dp :: .ref (b0 + b) :: .int sp :: .ref (b0 + a) :: rest.map (pm_mv b0 ad))) := by
    intro t0 t ty q1 q2 ht hprim hfit
    have hc0 := r.ints q1 q2
    have hc1 := r.ints (hTb.trans q1) q2
    have hnw : nativeFrameWords "java/lang/System" "arraycopy" 5 + 11 ≤ 32 := by decide
    intro T hT X
    obtain ⟨-, k0, hk0, cm0, hkk0⟩ := (hK.2 t0 _ ht).1 (zN h a) (fun j => .int (zI h a j))
    obtain ⟨vm', X', step⟩ := X.arraycopy hx hown (sd_w C hw rfl) (sd_w C pm_ac_ws.1 rfl) (sd_w C pm_ac_ws.2.1 rfl) (sd_w C pm_ac_ws.2.2 rfl) (src := b0 + a) (dst := b0 + b) (cs := arrV (cA t) (zN h a) (fun j => Value.int (zI h a j))) (cd := arrV (cA t) (zN h b) (fun j => Value.int (zI h b j))) (srcPos := sp) (destPos := dp) (n := n) (by rw [hT]; exact hc0) (by rw [hT]; exact hc1)
      (fun _ h => by cases h) (fun _ h => by cases h) (fun h => by cases h) (fun h => by cases h) hk0 hk0 hkk0 hkk0 (by simp [hprim]) h1 h2 h3
      (by rw [sd_nn sp h1, sd_nn n h3, arrV_size]; omega)
      (by rw [sd_nn dp h2, sd_nn n h3, arrV_size]; omega)
      (fun vm₁ _ i hi => by
        have e9 : (arrV (cA t) (zN h a) (fun j => Value.int (zI h a j))).slots.getD (sp.toNatClampNeg + i) .null = .int (zI h a (sp.toNatClampNeg + i)) := by
          rw [Array.getD_eq_getD_getElem?, arrV_read _ _ (by omega)]
          rfl
        refine ⟨?_, ?_⟩
        · rw [e9]
          exact hfit _
        · rw [e9]
          exact trivial)
      (g := F0 m pc ls (.int n :: .int dp :: .ref (b0 + b) :: .int sp :: .ref (b0 + a) :: rest.map (pm_mv b0 ad))) rfl (by show ls.size = _; rw [hls, hml]) (rest := rest.map (pm_mv b0 ad)) rfl (by rw [hb]; exact hd) (by omega) (by show 2 * 0 + _ + _ ≤ _; omega)
    have e1 : copied (arrV (cA t) (zN h a) (fun j => Value.int (zI h a j))) (arrV (cA t) (zN h b) (fun j => Value.int (zI h b j))) sp dp n = arrV (cA t) (zN h b) (fun j => .int (va_cpy (zI h a) (zI h b) sp.toNatClampNeg dp.toNatClampNeg n.toNatClampNeg j)) := va_copied (fun z => .int z) (cA t) (cA t) (zI h a) (zI h b) h4
    rw [e1] at X' step
    generalize hcell : arrV (cA t) (zN h b) (fun j => Value.int (va_cpy (zI h a) (zI h b) sp.toNatClampNeg dp.toNatClampNeg n.toNatClampNeg j)) = cell at X' step
    have hl : b0 + b < H.size := (Array.getElem?_eq_some_iff.mp hc1).1
    have hheap : ((T.setVm vm').setCell (b0 + b) cell).heap = H.setIfInBounds (b0 + b) cell := by rw [← hT]; rfl
    have oq : ∀ q : Nat, q ≠ b0 + b → (H.setIfInBounds (b0 + b) cell)[q]? = H[q]? := fun q hq => by simp [Array.getElem?_setIfInBounds, Ne.symm hq]
    have hA : pm_A b0 (b0 + b) := Nat.le_add_right _ _
    obtain ⟨t9, a1, b1⟩ := kk _ _ (r.row (hTb.trans q1) q2 (by rw [hcell]; simp [Array.getElem?_setIfInBounds, hl]) (by simp) oq) ⟨by simp; exact hS.1, fun q g1 g2 => by
        rw [oq q (fun e => g2 (by rw [e]; exact hA))]
        exact hS.2.1 q g1 g2, fun q hq => by
        rcases List.mem_append.mp hq with h | h
        · exact hS.2.2 q h
        · obtain ⟨z, -, hz⟩ := List.mem_map.mp h
          rw [← hz]
          exact hA⟩ _ hheap X'
    exact ⟨t9, step t9 a1, b1⟩
  rcases hTa with q | ⟨q, hq⟩
  · exact main 0 100 .int q (by omega) rfl rfl (fun j => rfl)
  · exact main 1 101 .byte q (by omega) rfl rfl (fun j => by rw [← hq j]; exact pk_fb _)
end SD4

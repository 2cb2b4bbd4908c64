theorem pm_Rel.ist {b0 : Nat} {D : va_G} {cA : Nat → ClassId} {h : pm_H} {H H' : Heap} {a t i : Nat} {v : Int32} (r : pm_Rel b0 D cA h H) (hT : zT h a = t) (ht : t = 100 ∨ t = 101 ∨ t = 102) (e : H'[b0 + a]? = some ((arrV (cA t) (zN h a) (fun j => .int (zI h a j))).setSlot i (.int v))) (z : H'.size = H.size) (o : ∀ q, q ≠ b0 + a → H'[q]? = H[q]?) : pm_Rel b0 D cA (yI h a i v) H' := by
  refine r.set (a := a) (fun _ => rfl) (fun _ => rfl) rfl (fun b hb => zI_yAn h _ hb) (fun _ _ => rfl) (fun _ _ => rfl) z o (fun _ => Or.inr (Or.inl ?_))
  show (zT h a = 100 ∨ zT h a = 101 ∨ zT h a = 102) ∧ H'[b0 + a]? = some (arrV (cA (zT h a)) (zN h a) (fun j => .int (zI (yA h a (va_up (zI h a) i v)) a j)))
  rw [hT, e, arrV_store, zI_yAs]
  refine ⟨ht, ?_⟩
  congr 2
  funext j
  show (if j = i then Value.int v else Value.int (zI h a j)) = Value.int (if j = i then v else zI h a j)
  split <;> rfl
theorem pm_Rel.qst {b0 : Nat} {D : va_G} {cA : Nat → ClassId} {h : pm_H} {H H' : Heap} {a t i x : Nat} (r : pm_Rel b0 D cA h H) (hT : zT h a = t) (ht : t = 103 ∨ t = 104 ∨ t = 105) (e : H'[b0 + a]? = some ((arrV (cA t) (zN h a) (fun j => va_rf ((zR h a j).map (b0 + ·)))).setSlot i (.ref (b0 + x)))) (z : H'.size = H.size) (o : ∀ q, q ≠ b0 + a → H'[q]? = H[q]?) : pm_Rel b0 D cA (yR h a i (some x)) H' := by
  refine r.set (a := a) (fun _ => rfl) (fun _ => rfl) rfl (fun _ _ => rfl) (fun b hb => zR_yBn h _ hb) (fun _ _ => rfl) z o (fun _ => Or.inr (Or.inr ?_))
  show (zT h a = 103 ∨ zT h a = 104 ∨ zT h a = 105) ∧ H'[b0 + a]? = some (arrV (cA (zT h a)) (zN h a) (fun j => va_rf ((zR (yB h a (va_up (zR h a) i (some x))) a j).map (b0 + ·))))
  rw [hT, e, arrV_store, zR_yBs]
  refine ⟨ht, ?_⟩
  congr 2
  funext j
  show (if j = i then Value.ref (b0 + x) else va_rf ((zR h a j).map (b0 + ·))) = va_rf ((if j = i then some x else zR h a j).map (b0 + ·))
  split <;> rfl
section SD2
variable {b0 : Nat} {D : va_G} {cA : Nat → ClassId} {ad : Nat → Nat} {p : Program} {l : Launch} {e : Env} {R : Room} {s : State} {m : MethodId} {args : Array Value} {below : List Frame} {meth : Method} {c : Code} {H : Heap} {locs : List Loc} {cells slots : Nat} {Q : State → Prop} {mi pc : Nat} {ls : Array Slot} {rest : List Value} {h : pm_H}
theorem sd_iald (C : pm_Cx b0 D cA ad p s m args meth c mi) (r : pm_Rel b0 D cA h H) {a : Nat} {i : Int32} (hT : zT h a = 100) (hin : vp_in i (zN h a)) (hd : decode (pm_b mi) pc = .ok (.iaload, 1)) (k : W p l e R s m args below meth c H locs cells slots Q (F0 m (pc + 1) ls (.int (zI h a i.toNatClampNeg) :: rest))) : W p l e R s m args below meth c H locs cells slots Q (F0 m pc ls (.int i :: .ref (b0 + a) :: rest)) := by
  have hlt : i.toNatClampNeg < zN h a := Nat.not_le.mp fun q => hin (Or.inr q)
  obtain ⟨hx, hb, -, -, -, -, -, -, hK, -⟩ := id C
  exact W.iald (v := .int (zI h a i.toNatClampNeg)) hx hb (r.ints hT (Or.inl rfl)) ((hK.2 0 _ rfl).1 _ _) (fun q => by cases q) (by rw [arrV_size]; exact hin) (by rw [arrV_read _ _ hlt]) rfl rfl hd k
theorem sd_bald (C : pm_Cx b0 D cA ad p s m args meth c mi) (r : pm_Rel b0 D cA h H) {a : Nat} {i : Int32} (hT : zT h a = 101) (hin : vp_in i (zN h a)) (hd : decode (pm_b mi) pc = .ok (.baload, 1)) (k : W p l e R s m args below meth c H locs cells slots Q (F0 m (pc + 1) ls (.int (zI h a i.toNatClampNeg) :: rest))) : W p l e R s m args below meth c H locs cells slots Q (F0 m pc ls (.int i :: .ref (b0 + a) :: rest)) := by
  have hlt : i.toNatClampNeg < zN h a := Nat.not_le.mp fun q => hin (Or.inr q)
  obtain ⟨hx, hb, -, -, -, -, -, -, hK, -⟩ := id C
  exact W.bald (v := .int (zI h a i.toNatClampNeg)) hx hb (r.ints hT (Or.inr (Or.inl rfl))) ((hK.2 1 _ rfl).1 _ _) (fun q => by cases q) (by rw [arrV_size]; exact hin) (by rw [arrV_read _ _ hlt]) rfl rfl hd k
theorem sd_zald (C : pm_Cx b0 D cA ad p s m args meth c mi) (r : pm_Rel b0 D cA h H) {a : Nat} {i : Int32} (hT : zT h a = 102) (hin : vp_in i (zN h a)) (hd : decode (pm_b mi) pc = .ok (.baload, 1)) (k : W p l e R s m args below meth c H locs cells slots Q (F0 m (pc + 1) ls (.int (zI h a i.toNatClampNeg) :: rest))) : W p l e R s m args below meth c H locs cells slots Q (F0 m pc ls (.int i :: .ref (b0 + a) :: rest)) := by
  have hlt : i.toNatClampNeg < zN h a := Nat.not_le.mp fun q => hin (Or.inr q)
  obtain ⟨hx, hb, -, -, -, -, -, -, hK, -⟩ := id C
  exact W.zald (v := .int (zI h a i.toNatClampNeg)) hx hb (r.ints hT (Or.inr (Or.inr rfl))) ((hK.2 2 _ rfl).1 _ _) (fun q => by cases q) (by rw [arrV_size]; exact hin) (by rw [arrV_read _ _ hlt]) rfl rfl hd k
theorem sd_aald (C : pm_Cx b0 D cA ad p s m args meth c mi) (r : pm_Rel b0 D cA h H) {a : Nat} {i : Int32} (hT : zT h a = 103 ∨ zT h a = 104 ∨ zT h a = 105) (hin : vp_in i (zN h a)) (hd : decode (pm_b mi) pc = .ok (.aaload, 1)) (k : W p l e R s m args below meth c H locs cells slots Q (F0 m (pc + 1) ls (pm_mv b0 ad (va_rf (zR h a i.toNatClampNeg)) :: rest))) : W p l e R s m args below meth c H locs cells slots Q (F0 m pc ls (.int i :: .ref (b0 + a) :: rest)) := by
  have hlt : i.toNatClampNeg < zN h a := Nat.not_le.mp fun q => hin (Or.inr q)
  obtain ⟨hx, hb, -, -, -, -, -, -, hK, -⟩ := id C
  rw [pm_mv_rf] at k
  rcases hT with hT | hT | hT
  · exact W.aald (v := va_rf ((zR h a i.toNatClampNeg).map (b0 + ·))) (ty := .object RX9) hx hb (r.refs hT (Or.inl rfl)) ((hK.2 3 _ rfl).1 _ _) rfl (fun q => by cases q) (by rw [arrV_size]; exact hin) (by rw [arrV_read _ _ hlt]) rfl rfl hd k
  · exact W.aald (v := va_rf ((zR h a i.toNatClampNeg).map (b0 + ·))) (ty := .object RX3) hx hb (r.refs hT (Or.inr (Or.inl rfl))) ((hK.2 4 _ rfl).1 _ _) rfl (fun q => by cases q) (by rw [arrV_size]; exact hin) (by rw [arrV_read _ _ hlt]) rfl rfl hd k
  · exact W.aald (v := va_rf ((zR h a i.toNatClampNeg).map (b0 + ·))) (ty := .object RX5) hx hb (r.refs hT (Or.inr (Or.inr rfl))) ((hK.2 5 _ rfl).1 _ _) rfl (fun q => by cases q) (by rw [arrV_size]; exact hin) (by rw [arrV_read _ _ hlt]) rfl rfl hd k
theorem sd_alen (C : pm_Cx b0 D cA ad p s m args meth c mi) (r : pm_Rel b0 D cA h H) {a : Nat} (hT : 100 ≤ zT h a ∧ zT h a ≤ 105) (hd : decode (pm_b mi) pc = .ok (.arraylength, 1)) (k : W p l e R s m args below meth c H locs cells slots Q (F0 m (pc + 1) ls (.int (Int32.ofInt (zN h a)) :: rest))) : W p l e R s m args below meth c H locs cells slots Q (F0 m pc ls (.ref (b0 + a) :: rest)) := by
  obtain ⟨hx, hb, -, -, -, -, -, -, hK, -⟩ := id C
  have e1 : ∀ f : Nat → Value, ∀ cc : ClassId, (arrV cc (zN h a) f).slots.size.toInt32 = Int32.ofInt (zN h a) := fun f cc => by rw [arrV_size]; rfl
  rcases (by omega : zT h a = 100 ∨ zT h a = 101 ∨ zT h a = 102 ∨ zT h a = 103 ∨ zT h a = 104 ∨ zT h a = 105) with q | q | q | q | q | q
  · exact W.alen hx hb (r.ints q (by omega)) ((hK.2 0 _ rfl).1 _ _) (e1 _ _) rfl rfl hd k
  · exact W.alen hx hb (r.ints q (by omega)) ((hK.2 1 _ rfl).1 _ _) (e1 _ _) rfl rfl hd k
  · exact W.alen hx hb (r.ints q (by omega)) ((hK.2 2 _ rfl).1 _ _) (e1 _ _) rfl rfl hd k
  · exact W.alen hx hb (r.refs q (by omega)) ((hK.2 3 _ rfl).1 _ _) (e1 _ _) rfl rfl hd k
  · exact W.alen hx hb (r.refs q (by omega)) ((hK.2 4 _ rfl).1 _ _) (e1 _ _) rfl rfl hd k
  · exact W.alen hx hb (r.refs q (by omega)) ((hK.2 5 _ rfl).1 _ _) (e1 _ _) rfl rfl hd k
theorem sd_iast (C : pm_Cx b0 D cA ad p s m args meth c mi) (r : pm_Rel b0 D cA h H) (hS : va_S (pm_A b0) s.heap H locs) {a : Nat} {i x : Int32} (hT : zT h a = 100) (hin : vp_in i (zN h a)) (hd : decode (pm_b mi) pc = .ok (.iastore, 1))
    (kk : ∀ (H1 : Heap) (locs1 : List Loc), pm_Rel b0 D cA (yI h a i.toNatClampNeg x) H1 → va_S (pm_A b0) s.heap H1 locs1 → W p l e R s m args below meth c H1 locs1 cells slots Q (F0 m (pc + 1) ls rest)) : W p l e R s m args below meth c H locs cells slots Q (F0 m pc ls (.int x :: .int i :: .ref (b0 + a) :: rest)) := by
  obtain ⟨hx, hb, -, -, -, -, -, -, hK, -⟩ := id C
  refine W.iast hx hb (r.ints hT (Or.inl rfl)) ((hK.2 0 _ rfl).1 _ _) (fun q => by cases q) (by rw [arrV_size]; exact hin) rfl rfl hd fun H1 e1 z oq => ?_
  exact kk H1 _ (r.ist hT (Or.inl rfl) e1 z oq) (hS.put z oq (Nat.le_add_right b0 a))
theorem sd_bast (C : pm_Cx b0 D cA ad p s m args meth c mi) (r : pm_Rel b0 D cA h H) (hS : va_S (pm_A b0) s.heap H locs) {a : Nat} {i x : Int32} (hT : zT h a = 101) (hin : vp_in i (zN h a)) (hd : decode (pm_b mi) pc = .ok (.bastore, 1))
    (kk : ∀ (H1 : Heap) (locs1 : List Loc), pm_Rel b0 D cA (yI h a i.toNatClampNeg x.toInt8.toInt32) H1 → va_S (pm_A b0) s.heap H1 locs1 → W p l e R s m args below meth c H1 locs1 cells slots Q (F0 m (pc + 1) ls rest)) : W p l e R s m args below meth c H locs cells slots Q (F0 m pc ls (.int x :: .int i :: .ref (b0 + a) :: rest)) := by
  obtain ⟨hx, hb, -, -, -, -, -, -, hK, -⟩ := id C
  refine W.bast hx hb (r.ints hT (Or.inr (Or.inl rfl))) ((hK.2 1 _ rfl).1 _ _) (fun q => by cases q) (by rw [arrV_size]; exact hin) rfl rfl hd fun H1 e1 z oq => ?_
  exact kk H1 _ (r.ist hT (Or.inr (Or.inl rfl)) e1 z oq) (hS.put z oq (Nat.le_add_right b0 a))
theorem sd_zast (C : pm_Cx b0 D cA ad p s m args meth c mi) (r : pm_Rel b0 D cA h H) (hS : va_S (pm_A b0) s.heap H locs) {a : Nat} {i x : Int32} (hT : zT h a = 102) (hx01 : x = 0 ∨ x = 1) (hin : vp_in i (zN h a)) (hd : decode (pm_b mi) pc = .ok (.bastore, 1))
    (kk : ∀ (H1 : Heap) (locs1 : List Loc), pm_Rel b0 D cA (yI h a i.toNatClampNeg x) H1 → va_S (pm_A b0) s.heap H1 locs1 → W p l e R s m args below meth c H1 locs1 cells slots Q (F0 m (pc + 1) ls rest)) : W p l e R s m args below meth c H locs cells slots Q (F0 m pc ls (.int x :: .int i :: .ref (b0 + a) :: rest)) := by
  obtain ⟨hx, hb, -, -, -, -, -, -, hK, -⟩ := id C
  have hnx : narrow .boolean (.int x) = .int x := by rcases hx01 with rfl | rfl <;> decide
  refine W.zast hx hb (r.ints hT (Or.inr (Or.inr rfl))) ((hK.2 2 _ rfl).1 _ _) (fun q => by cases q) (by rw [arrV_size]; exact hin) rfl rfl hd fun H1 e1 z oq => ?_
  rw [hnx] at e1
  exact kk H1 _ (r.ist hT (Or.inr (Or.inr rfl)) e1 z oq) (hS.put z oq (Nat.le_add_right b0 a))
theorem sd_aast (C : pm_Cx b0 D cA ad p s m args meth c mi) (r : pm_Rel b0 D cA h H) (hS : va_S (pm_A b0) s.heap H locs) {a x : Nat} {i : Int32} (hT : zT h a = 103 ∨ zT h a = 104 ∨ zT h a = 105) (hTx : zT h x = pm_elt (zT h a)) (hin : vp_in i (zN h a)) (hd : decode (pm_b mi) pc = .ok (.aastore, 1))
    (kk : ∀ (H1 : Heap) (locs1 : List Loc), pm_Rel b0 D cA (yR h a i.toNatClampNeg (some x)) H1 → va_S (pm_A b0) s.heap H1 locs1 → W p l e R s m args below meth c H1 locs1 cells slots Q (F0 m (pc + 1) ls rest)) : W p l e R s m args below meth c H locs cells slots Q (F0 m pc ls (.ref (b0 + x) :: .int i :: .ref (b0 + a) :: rest)) := by
  obtain ⟨hx, hb, -, -, -, -, -, -, hK, -⟩ := id C
  have hlt : i.toNatClampNeg < zN h a := Nat.not_le.mp fun q => hin (Or.inr q)
  have h0 : ¬ i < 0 := fun q => hin (Or.inl q)
  have main : ∀ (t0 ci t : Nat) (C : String), zT h a = t → (t = 103 ∨ t = 104 ∨ t = 105) → zT h x = ci → ci < 14 → pm_R ci = C → (pm_tys cA)[t0]? = some (cA t, .object C) → W p l e R s m args below meth c H locs cells slots Q (F0 m pc ls (.ref (b0 + x) :: .int i :: .ref (b0 + a) :: rest)) := by
    intro t0 ci t C q1 q2 q3 q4 q5 ht
    subst q5
    obtain ⟨cellV, g1, g2, g3, -⟩ := r.obj q3 q4
    have hcls := (hK.1 ci _ (pm_vcl_at ci q4)).2
    obtain ⟨kA, comp, k1, k2, k3, -⟩ := (hK.2 t0 _ ht).2
    have hcomp : comp = D.1 ci := Option.some.inj (k3.symm.trans hcls.1)
    subst hcomp
    obtain ⟨kC, hkC, -⟩ := hcls.2
    refine W.aast hx hb (r.refs q1 q2) (fun q h => by cases h) (fun h => by cases h) k1 k2 rfl hkC ⟨h0, by rw [arrV_size]; exact hlt⟩ g1 (fun q h => by rw [g3] at h; cases h) (by rw [g2]; exact hkC) (by rw [g2]; exact va_assign hcls) rfl rfl hd fun H1 e1 z oq => ?_
    exact kk H1 _ (r.qst q1 q2 e1 z oq) (hS.put z oq (Nat.le_add_right b0 a))
  rcases hT with q | q | q
  · exact main 3 9 103 RX9 q (by omega) (by rw [hTx, q]; rfl) (by omega) rfl rfl
  · exact main 4 3 104 RX3 q (by omega) (by rw [hTx, q]; rfl) (by omega) rfl rfl
  · exact main 5 5 105 RX5 q (by omega) (by rw [hTx, q]; rfl) (by omega) rfl rfl
end SD2

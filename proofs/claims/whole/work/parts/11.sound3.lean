theorem pm_Rel.nw {b0 : Nat} {D : va_G} {cA : Nat → ClassId} {h : pm_H} {H H' : Heap} {t n z : Nat} (k : pm_Rel b0 D cA h H) (hz : H'.size = H.size + 1) (ho : ∀ q, q < H.size → H'[q]? = H[q]?) (ha : pm_at b0 D cA (yN h t n z) H' (zn h)) : pm_Rel b0 D cA (yN h t n z) H' :=
  k.new (fun b e => va_upN _ _ e) (fun b e => va_upN _ _ e) rfl (fun b e => va_upN _ _ e) (fun b e => va_upN _ _ e) (fun b e => va_upN _ _ e) hz ho ha
theorem yN_T (h : pm_H) (t n z : Nat) : zT (yN h t n z) (zn h) = t := va_upS _ _ _
theorem yN_N (h : pm_H) (t n z : Nat) : zN (yN h t n z) (zn h) = n := va_upS _ _ _
theorem yN_I (h : pm_H) (t n z : Nat) : zI (yN h t n z) (zn h) = fun _ => 0 := va_upS _ _ _
theorem yN_R (h : pm_H) (t n z : Nat) : zR (yN h t n z) (zn h) = fun _ => none := va_upS _ _ _
theorem yN_J (h : pm_H) (t n z : Nat) : zJ (yN h t n z) (zn h) = fun _ => 0 := va_upS _ _ _
section SD3
variable {b0 : Nat} {D : va_G} {cA : Nat → ClassId} {ad : Nat → Nat} {p : Program} {l : Launch} {e : Env} {R : Room} {s : State} {m : MethodId} {args : Array Value} {below : List Frame} {meth : Method} {c : Code} {H : Heap} {locs : List Loc} {cells slots : Nat} {Q : State → Prop} {mi pc : Nat} {ls : Array Slot} {rest : List Value} {h : pm_H}
theorem sd_new (C : pm_Cx b0 D cA ad p s m args meth c mi) (r : pm_Rel b0 D cA h H) (hS : va_S (pm_A b0) s.heap H locs) {g : Nat} (hlk : pm_lk mi (.new g) = true) (hd : decode (pm_b mi) pc = .ok (.new (g % 2048), 3)) (hc1 : cells + 1 ≤ R.cells) (hs1 : slots + pm_N (g / 2048) ≤ R.slots)
    (kk : ∀ H1 : Heap, pm_Rel b0 D cA (yN h (g / 2048) 0 (pm_N (g / 2048))) H1 → va_S (pm_A b0) s.heap H1 locs → W p l e R s m args below meth c H1 locs (cells + 1) (slots + pm_N (g / 2048)) Q (F0 m (pc + 3) ls (.ref (b0 + zn h) :: rest))) : W p l e R s m args below meth c H locs cells slots Q (F0 m pc ls rest) := by
  simp only [pm_lk, Bool.and_eq_true] at hlk
  have hg : g < 2 ^ 40 := Nat.le_of_ble_eq_true hlk.1
  obtain ⟨e1, e2, e3, -⟩ := pm_key_div mi g hg
  have q := pm_nl_ok _ (List.contains_iff_mem.mp hlk.2)
  unfold pm_nW at q
  rw [e1, e2, e3] at q
  obtain ⟨hc, hw1, hw2, hw3⟩ := q
  obtain ⟨hx, hb, -, hown, -, -, -, hts, hK, -⟩ := id C
  have hKn := hK.1 _ _ (pm_vcl_at _ hc)
  refine W.newcK hx hb hown (sd_w C hw1 rfl) (sd_w C hw2 rfl) (sd_w C hw3 rfl) rfl hd hc1 hs1 hKn.2.1 r.1 fun H1 kC hkC f1 z1 o1 => ?_
  have hb1 : t_OB (b0 + zn h) (D.1 (g / 2048)) (pm_N (g / 2048)) (D.2 (g / 2048)) H1 (fun k => defaultValue (pm_ty (g / 2048) k)) := u_born (pm_ty (g / 2048)) hts (sd_in _ hc) hKn hkC f1 (pm_tyok _ hc)
  refine kk H1 (r.nw (by rw [z1, r.1]) (fun q hq => o1 q (by rw [← r.1]; exact hq)) (Or.inl ?_)) ⟨Nat.le_trans hS.1 (by rw [z1, r.1]; omega), fun x h1 h2 => (o1 x (by rw [← r.1]; exact Nat.lt_of_lt_of_le h1 hS.1)).trans (hS.2.1 x h1 h2), hS.2.2⟩
  rw [yN_T]
  refine ⟨hc, hb1.to (fun k hk => ?_)⟩
  have hgd := pm_tygd _ hc k hk
  have eI : zI (yN h (g / 2048) 0 (pm_N (g / 2048))) (zn h) k = 0 := congrFun (yN_I _ _ _ _) k
  have eR : zR (yN h (g / 2048) 0 (pm_N (g / 2048))) (zn h) k = none := congrFun (yN_R _ _ _ _) k
  have eJ : zJ (yN h (g / 2048) 0 (pm_N (g / 2048))) (zn h) k = 0 := congrFun (yN_J _ _ _ _) k
  cases hty : pm_ty (g / 2048) k <;> rw [hty] at hgd <;> first | exact absurd hgd (by decide) | (simp only [pm_kd, pm_fv, eI, eR, eJ]; rfl)
theorem sd_newa (C : pm_Cx b0 D cA ad p s m args meth c mi) (r : pm_Rel b0 D cA h H) (hS : va_S (pm_A b0) s.heap H locs) {t : ArrayType} {n : Int32} (hlk : pm_lk mi (.newarray t) = true) (hd : decode (pm_b mi) pc = .ok (.newarray t, 2)) (hn : ¬ n < 0) (hN : n.toNatClampNeg ≤ 100000) (hc1 : cells + 1 ≤ R.cells) (hs1 : slots + n.toNatClampNeg ≤ R.slots)
    (kk : ∀ H1 : Heap, pm_Rel b0 D cA (yN h (pm_tag t) n.toNatClampNeg n.toNatClampNeg) H1 → va_S (pm_A b0) s.heap H1 locs → W p l e R s m args below meth c H1 locs (cells + 1) (slots + n.toNatClampNeg) Q (F0 m (pc + 2) ls (.ref (b0 + zn h) :: rest))) : W p l e R s m args below meth c H locs cells slots Q (F0 m pc ls (.int n :: rest)) := by
  obtain ⟨hx, hb, -, hown, -, -, -, hts, hK, -⟩ := id C
  have main : ∀ (t0 tg : Nat) (ty : FieldType), newarray.typeOf t = ty → pm_tag t = tg → (tg = 100 ∨ tg = 101 ∨ tg = 102) → (pm_tys cA)[t0]? = some (cA tg, ty) → defaultValue ty = .int 0 → componentBytes ty ≤ 4 → Cond.arrayClass ty ∈ lw_tbl → (∀ q, va_RA s q ty → s.vm.findClass ("[" ++ ty.toString) = some q) → W p l e R s m args below meth c H locs cells slots Q (F0 m pc ls (.int n :: rest)) := by
    intro t0 tg ty h1 h2 h3 h4 h5 h6 h7 h8
    subst h1
    refine va_newaK hx hb (sd_w C h7 rfl) rfl hd rfl hn rfl (Nat.le_trans (Nat.mul_le_mul_left _ h6) (by omega)) hc1 hs1 r.1 fun H1 cA' f1 z1 o1 hAr hNm => ?_
    have hA' : cA' = cA tg := Option.some.inj (hNm.symm.trans (h8 _ (hK.2 t0 _ h4).2))
    subst hA'
    refine kk H1 (r.nw (by rw [z1, r.1]) (fun q hq => o1 q (by rw [← r.1]; exact hq)) (Or.inr (Or.inl ?_))) ⟨Nat.le_trans hS.1 (by rw [z1, r.1]; omega), fun x h1 h2 => (o1 x (by rw [← r.1]; exact Nat.lt_of_lt_of_le h1 hS.1)).trans (hS.2.1 x h1 h2), hS.2.2⟩
    rw [yN_T, yN_N, yN_I, h2]
    refine ⟨h3, ?_⟩
    rw [f1, h5]
  have hlk' : t = .int ∨ t = .byte ∨ t = .boolean := by cases t <;> first | exact Or.inl rfl | exact Or.inr (Or.inl rfl) | exact Or.inr (Or.inr rfl) | exact absurd hlk (by simp [pm_lk])
  rcases hlk' with rfl | rfl | rfl
  · exact main 0 100 .int rfl rfl (by omega) rfl rfl (by decide) pm_arr_ws.1 (fun q hq => hq)
  · exact main 1 101 .byte rfl rfl (by omega) rfl rfl (by decide) pm_arr_ws.2.1 (fun q hq => hq)
  · exact main 2 102 .boolean rfl rfl (by omega) rfl rfl (by decide) pm_arr_ws.2.2 (fun q hq => hq)
theorem sd_anew (C : pm_Cx b0 D cA ad p s m args meth c mi) (r : pm_Rel b0 D cA h H) (hS : va_S (pm_A b0) s.heap H locs) {g : Nat} {n : Int32} (hlk : pm_lk mi (.anewarray g) = true) (hd : decode (pm_b mi) pc = .ok (.anewarray (g % 2048), 3)) (hn : ¬ n < 0) (hN : n.toNatClampNeg ≤ 100000) (hc1 : cells + 1 ≤ R.cells) (hs1 : slots + n.toNatClampNeg ≤ R.slots)
    (kk : ∀ H1 : Heap, pm_Rel b0 D cA (yN h (g / 2048) n.toNatClampNeg n.toNatClampNeg) H1 → va_S (pm_A b0) s.heap H1 locs → W p l e R s m args below meth c H1 locs (cells + 1) (slots + n.toNatClampNeg) Q (F0 m (pc + 3) ls (.ref (b0 + zn h) :: rest))) : W p l e R s m args below meth c H locs cells slots Q (F0 m pc ls (.int n :: rest)) := by
  simp only [pm_lk, Bool.and_eq_true] at hlk
  have hg : g < 2 ^ 40 := Nat.le_of_ble_eq_true hlk.1
  obtain ⟨e1, e2, e3, -⟩ := pm_key_div mi g hg
  have q := pm_al_ok _ (List.contains_iff_mem.mp hlk.2)
  unfold pm_aW at q
  rw [e1, e2, e3] at q
  obtain ⟨hc, hw1, hw2⟩ := q
  obtain ⟨hx, hb, -, hown, -, -, -, hts, hK, -⟩ := id C
  have main : ∀ (t0 tg : Nat) (Cn : String), g / 2048 = tg → (tg = 103 ∨ tg = 104 ∨ tg = 105) → pm_R (pm_elt tg) = Cn → (pm_tys cA)[t0]? = some (cA tg, .object Cn) → va_AO Cn s → W p l e R s m args below meth c H locs cells slots Q (F0 m pc ls (.int n :: rest)) := by
    intro t0 tg Cn h1 h2 h3 h4 hao
    subst h1
    subst h3
    refine W.anew hx hb hown (sd_w C hw1 rfl) (va_AO.use hao) rfl hd rfl hn (by omega) hc1 hs1 fun cA' kA comp f1 f2 f3 f4 => ?_
    obtain ⟨kA', comp', k1, k2, k3, k4⟩ := (hK.2 t0 _ h4).2
    have hA' : cA' = cA (g / 2048) := Option.some.inj (f1.symm.trans k4)
    subst hA'
    generalize hH1 : H.push ({ cls := cA (g / 2048), slots := Array.replicate n.toNatClampNeg .null, vm := .none } : Cell) = H1
    have z1 : H1.size = H.size + 1 := by rw [← hH1, Array.size_push]
    have f1 : H1[H.size]? = some (arrV (cA (g / 2048)) n.toNatClampNeg (fun _ => .null)) := by rw [← hH1, Array.getElem?_push_size, ← arrV_new]
    have o1 : ∀ q : Nat, q < H.size → H1[q]? = H[q]? := fun q hq => by rw [← hH1, Array.getElem?_push, if_neg (Nat.ne_of_lt hq)]
    rw [r.1]
    refine kk H1 (r.nw z1 o1 (Or.inr (Or.inr ?_))) ⟨Nat.le_trans hS.1 (by rw [z1]; omega), fun x h1 h2 => (o1 x (Nat.lt_of_lt_of_le h1 hS.1)).trans (hS.2.1 x h1 h2), hS.2.2⟩
    rw [yN_T, yN_N, yN_R]
    refine ⟨h2, ?_⟩
    rw [← r.1, f1]
    rfl
  rcases hc with q | q | q
  · exact main 3 103 RX9 q (by omega) rfl rfl C.2.2.2.2.2.2.2.2.2.2.2.2.1
  · exact main 4 104 RX3 q (by omega) rfl rfl C.2.2.2.2.2.2.2.2.2.2.2.2.2.1
  · exact main 5 105 RX5 q (by omega) rfl rfl C.2.2.2.2.2.2.2.2.2.2.2.2.2.2.1
end SD3

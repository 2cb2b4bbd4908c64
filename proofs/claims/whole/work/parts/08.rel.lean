/-! THE PURE HEAP AND THE MACHINE'S: the cell a lies at b0 + a; String constants (numbers as .retAddr) at ad i -/
def pm_mv (b0 : Nat) (ad : Nat → Nat) (v : Value) : Value := match v with
  | .ref a => .ref (b0 + a)
  | .retAddr i => .ref (ad i)
  | v => v
theorem pm_mv_cat (b0 : Nat) (ad : Nat → Nat) (v : Value) : (pm_mv b0 ad v).category = v.category := by cases v <;> rfl
theorem pm_mv_rf (b0 : Nat) (ad : Nat → Nat) (r : Option Nat) : pm_mv b0 ad (va_rf r) = va_rf (r.map (b0 + ·)) := by cases r <;> rfl
/-- a field's value in the machine -/
def pm_fv (b0 : Nat) (h : pm_H) (a k kd : Nat) : Value := match kd with
  | 0 => .int (zI h a k)
  | 1 => va_rf ((zR h a k).map (b0 + ·))
  | 2 => .long (zJ h a k)
  | _ => .int (zI h a k)
theorem pm_fv_val (b0 : Nat) (ad : Nat → Nat) (h : pm_H) (a k kd : Nat) : pm_fv b0 h a k kd = pm_mv b0 ad (pm_val h kd a k) := by
  match kd with
  | 0 => rfl
  | 1 => exact (pm_mv_rf b0 ad _).symm
  | 2 => rfl
  | n + 3 => rfl
def pm_at (b0 : Nat) (D : va_G) (cA : Nat → ClassId) (h : pm_H) (H : Heap) (a : Nat) : Prop :=
  (zT h a < 14 ∧ t_OB (b0 + a) (D.1 (zT h a)) (pm_N (zT h a)) (D.2 (zT h a)) H (fun k => pm_fv b0 h a k (pm_kd (pm_ty (zT h a) k)))) ∨
  ((zT h a = 100 ∨ zT h a = 101 ∨ zT h a = 102) ∧ H[b0 + a]? = some (arrV (cA (zT h a)) (zN h a) (fun j => .int (zI h a j)))) ∨
  ((zT h a = 103 ∨ zT h a = 104 ∨ zT h a = 105) ∧ H[b0 + a]? = some (arrV (cA (zT h a)) (zN h a) (fun j => va_rf ((zR h a j).map (b0 + ·)))))
def pm_Rel (b0 : Nat) (D : va_G) (cA : Nat → ClassId) (h : pm_H) (H : Heap) : Prop := H.size = b0 + zn h ∧ (∀ a, a < zn h → pm_at b0 D cA h H a) ∧ ∀ a, zn h ≤ a → zT h a = 999
theorem pm_at.kept {b0 : Nat} {D : va_G} {cA : Nat → ClassId} {h g : pm_H} {H H' : Heap} {a : Nat} (k : pm_at b0 D cA h H a) (e1 : zT g a = zT h a) (e2 : zN g a = zN h a) (e3 : zI g a = zI h a) (e4 : zR g a = zR h a) (e5 : zJ g a = zJ h a) (eH : H'[b0 + a]? = H[b0 + a]?) : pm_at b0 D cA g H' a := by
  have ef : ∀ k kd, pm_fv b0 g a k kd = pm_fv b0 h a k kd := by
    intro k kd
    match kd with
    | 0 => show Value.int (zI g a k) = _; rw [e3]; rfl
    | 1 => show va_rf ((zR g a k).map (b0 + ·)) = _; rw [e4]; rfl
    | 2 => show Value.long (zJ g a k) = _; rw [e5]; rfl
    | n + 3 => show Value.int (zI g a k) = _; rw [e3]; rfl
  unfold pm_at at k ⊢
  rw [e1, e2, e3, e4]
  rcases k with ⟨k1, k2⟩ | ⟨k1, k2⟩ | ⟨k1, k2⟩
  · exact Or.inl ⟨k1, (k2.kept eH).to (fun j _ => (ef j _).symm)⟩
  · exact Or.inr (Or.inl ⟨k1, eH.trans k2⟩)
  · exact Or.inr (Or.inr ⟨k1, eH.trans k2⟩)
theorem pm_Rel.lt {b0 : Nat} {D : va_G} {cA : Nat → ClassId} {h : pm_H} {H : Heap} (k : pm_Rel b0 D cA h H) {a : Nat} (ha : zT h a < 999) : a < zn h := by
  rcases Nat.lt_or_ge a (zn h) with q | q
  · exact q
  · have := k.2.2 a q
    omega
theorem pm_Rel.obj {b0 : Nat} {D : va_G} {cA : Nat → ClassId} {h : pm_H} {H : Heap} (k : pm_Rel b0 D cA h H) {a ci : Nat} (ha : zT h a = ci) (hc : ci < 14) : t_OB (b0 + a) (D.1 ci) (pm_N ci) (D.2 ci) H (fun k => pm_fv b0 h a k (pm_kd (pm_ty ci k))) := by
  have hl := k.lt (a := a) (by omega)
  subst ha
  rcases k.2.1 a hl with ⟨q1, q2⟩ | ⟨q1, q2⟩ | ⟨q1, q2⟩
  · exact q2
  · omega
  · omega
theorem pm_Rel.ints {b0 : Nat} {D : va_G} {cA : Nat → ClassId} {h : pm_H} {H : Heap} (k : pm_Rel b0 D cA h H) {a t : Nat} (ha : zT h a = t) (hc : t = 100 ∨ t = 101 ∨ t = 102) : H[b0 + a]? = some (arrV (cA t) (zN h a) (fun j => .int (zI h a j))) := by
  have hl := k.lt (a := a) (by omega)
  subst ha
  rcases k.2.1 a hl with ⟨q1, q2⟩ | ⟨q1, q2⟩ | ⟨q1, q2⟩
  · omega
  · exact q2
  · omega
theorem pm_Rel.refs {b0 : Nat} {D : va_G} {cA : Nat → ClassId} {h : pm_H} {H : Heap} (k : pm_Rel b0 D cA h H) {a t : Nat} (ha : zT h a = t) (hc : t = 103 ∨ t = 104 ∨ t = 105) : H[b0 + a]? = some (arrV (cA t) (zN h a) (fun j => va_rf ((zR h a j).map (b0 + ·)))) := by
  have hl := k.lt (a := a) (by omega)
  subst ha
  rcases k.2.1 a hl with ⟨q1, q2⟩ | ⟨q1, q2⟩ | ⟨q1, q2⟩
  · omega
  · omega
  · exact q2
/-- one cell's contents change -/
theorem pm_Rel.set {b0 : Nat} {D : va_G} {cA : Nat → ClassId} {h g : pm_H} {H H' : Heap} {a : Nat} (k : pm_Rel b0 D cA h H) (eT : ∀ b, zT g b = zT h b) (eN : ∀ b, zN g b = zN h b) (en : zn g = zn h) (e3 : ∀ b, b ≠ a → zI g b = zI h b) (e4 : ∀ b, b ≠ a → zR g b = zR h b) (e5 : ∀ b, b ≠ a → zJ g b = zJ h b) (hz : H'.size = H.size) (ho : ∀ q, q ≠ b0 + a → H'[q]? = H[q]?) (ha : a < zn h → pm_at b0 D cA g H' a) : pm_Rel b0 D cA g H' := by
  refine ⟨by rw [hz, en]; exact k.1, fun b hb => ?_, fun b hb => by rw [eT]; exact k.2.2 b (by rw [← en]; exact hb)⟩
  rw [en] at hb
  by_cases e : b = a
  · subst e; exact ha hb
  · exact (k.2.1 b hb).kept (eT b) (eN b) (e3 b e) (e4 b e) (e5 b e) (ho _ (by omega))
theorem va_upS {α : Type} (f : Nat → α) (k : Nat) (v : α) : va_up f k v k = v := if_pos rfl
theorem va_upN {α : Type} (f : Nat → α) {k j : Nat} (v : α) (h : j ≠ k) : va_up f k v j = f j := if_neg h
theorem zI_yA (h : pm_H) (a : Nat) (f : Nat → Int32) (b : Nat) : zI (yA h a f) b = if b = a then f else zI h b := rfl
theorem zI_yAs (h : pm_H) (a : Nat) (f : Nat → Int32) : zI (yA h a f) a = f := if_pos rfl
theorem zI_yAn (h : pm_H) {a b : Nat} (f : Nat → Int32) (e : b ≠ a) : zI (yA h a f) b = zI h b := if_neg e
theorem zR_yBs (h : pm_H) (a : Nat) (f : Nat → Option Nat) : zR (yB h a f) a = f := if_pos rfl
theorem zR_yBn (h : pm_H) {a b : Nat} (f : Nat → Option Nat) (e : b ≠ a) : zR (yB h a f) b = zR h b := if_neg e
theorem zJ_yLs (h : pm_H) (a : Nat) (f : Nat → Int64) : zJ (yL h a f) a = f := if_pos rfl
theorem zJ_yLn (h : pm_H) {a b : Nat} (f : Nat → Int64) (e : b ≠ a) : zJ (yL h a f) b = zJ h b := if_neg e
/-- a field is written -/
theorem pm_Rel.fld {b0 : Nat} {D : va_G} {cA : Nat → ClassId} {h g : pm_H} {H H' : Heap} {a ci k : Nat} {v : Value} {cell : Cell} (r : pm_Rel b0 D cA h H) (ha : zT h a = ci) (hc : ci < 14) (hk : k < pm_N ci) (hap : ∀ x y, x < pm_N ci → y < pm_N ci → x ≠ y → (D.2 ci) x ≠ (D.2 ci) y)
    (q1 : H[b0 + a]? = some cell) (eT : ∀ b, zT g b = zT h b) (eN : ∀ b, zN g b = zN h b) (en : zn g = zn h) (e3 : ∀ b, b ≠ a → zI g b = zI h b) (e4 : ∀ b, b ≠ a → zR g b = zR h b) (e5 : ∀ b, b ≠ a → zJ g b = zJ h b)
    (ev : pm_fv b0 g a k (pm_kd (pm_ty ci k)) = v) (eo : ∀ j kd, j ≠ k → pm_fv b0 g a j kd = pm_fv b0 h a j kd)
    (hz : H'.size = H.size) (hs : H'[b0 + a]? = some (cell.setSlot ((D.2 ci) k) v)) (ho : ∀ q, q ≠ b0 + a → H'[q]? = H[q]?) : pm_Rel b0 D cA g H' := by
  refine r.set eT eN en e3 e4 e5 hz ho (fun hl => Or.inl ?_)
  obtain ⟨cell', p1, p2, p3, p4⟩ := r.obj ha hc
  have : cell' = cell := Option.some.inj (p1.symm.trans q1)
  subst this
  rw [eT, ha]
  refine ⟨hc, _, hs, p2, p3, fun j hj => ?_⟩
  rw [t_set p4 hap hk v j hj]
  by_cases e : j = k
  · subst e
    show some (if j = j then v else _) = some (pm_fv b0 g a j (pm_kd (pm_ty ci j)))
    rw [if_pos rfl, ev]
  · show some (if j = k then v else _) = some (pm_fv b0 g a j (pm_kd (pm_ty ci j)))
    rw [if_neg e, eo j _ e]
/-- a new cell -/
theorem pm_Rel.new {b0 : Nat} {D : va_G} {cA : Nat → ClassId} {h g : pm_H} {H H' : Heap} (k : pm_Rel b0 D cA h H) (eT : ∀ b, b ≠ zn h → zT g b = zT h b) (eN : ∀ b, b ≠ zn h → zN g b = zN h b) (en : zn g = zn h + 1) (e3 : ∀ b, b ≠ zn h → zI g b = zI h b) (e4 : ∀ b, b ≠ zn h → zR g b = zR h b) (e5 : ∀ b, b ≠ zn h → zJ g b = zJ h b) (hz : H'.size = H.size + 1) (ho : ∀ q, q < H.size → H'[q]? = H[q]?) (ha : pm_at b0 D cA g H' (zn h)) : pm_Rel b0 D cA g H' := by
  have h1 := k.1
  refine ⟨by rw [hz, en]; omega, fun b hb => ?_, fun b hb => by rw [eT b (by omega)]; exact k.2.2 b (by omega)⟩
  by_cases e : b = zn h
  · subst e; exact ha
  · exact (k.2.1 b (by omega)).kept (eT b e) (eN b e) (e3 b e) (e4 b e) (e5 b e) (ho _ (by omega))
/-! locals -/
def pm_as (b0 : Nat) (ad : Nat → Nat) (L : pm_Lo) : List (Nat × Value) := (List.range L.length).filterMap (fun k => (pm_get L k).map (fun v => (k, pm_mv b0 ad v)))
def pm_LR (b0 : Nat) (ad : Nat → Nat) (nL : Nat) (L : pm_Lo) (ls : Array Slot) : Prop := L.length = nL ∧ lv_has ls nL (pm_as b0 ad L)
theorem pm_get_lt : ∀ {L : pm_Lo} {k : Nat} {v : Value}, pm_get L k = some v → k < L.length
  | [], k, v, h => by simp [pm_get] at h
  | x :: r, 0, v, h => by simp
  | x :: r, k + 1, v, h => by
    have := pm_get_lt (L := r) (k := k) (v := v) h
    simp; omega
theorem pm_as_mem {b0 : Nat} {ad : Nat → Nat} {L : pm_Lo} {q : Nat × Value} : q ∈ pm_as b0 ad L ↔ ∃ v, pm_get L q.1 = some v ∧ q.2 = pm_mv b0 ad v := by
  unfold pm_as
  rw [List.mem_filterMap]
  constructor
  · rintro ⟨k, -, hk⟩
    cases e : pm_get L k with
    | none => rw [e] at hk; cases hk
    | some v => rw [e] at hk; cases hk; exact ⟨v, e, rfl⟩
  · rintro ⟨v, h1, h2⟩
    refine ⟨q.1, List.mem_range.mpr (pm_get_lt h1), ?_⟩
    rw [h1]
    show some (q.1, pm_mv b0 ad v) = some q
    rw [← h2]
theorem pm_LR.at {b0 : Nat} {ad : Nat → Nat} {nL : Nat} {L : pm_Lo} {ls : Array Slot} (h : pm_LR b0 ad nL L ls) {k : Nat} {v : Value} (hk : pm_get L k = some v) : ls[k]? = some (.val (pm_mv b0 ad v)) := h.2.2.2 (k, pm_mv b0 ad v) (pm_as_mem.mpr ⟨v, hk, rfl⟩)
theorem pm_ok_lt : ∀ {L : pm_Lo} {k : Nat}, pm_ok L k = true → k < L.length
  | [], k, h => by simp [pm_ok] at h
  | x :: r, 0, h => by simp
  | x :: r, k + 1, h => by
    have h2 : pm_ok r k = true := (Bool.and_eq_true _ _ ▸ h : _ ∧ _).2
    have := pm_ok_lt h2
    simp; omega
theorem pm_set_len : ∀ (L : pm_Lo) (k : Nat) (v : Option Value), (pm_set L k v).length = L.length
  | [], _, _ => rfl
  | _ :: _, 0, _ => rfl
  | x :: r, k + 1, v => by simp [pm_set, pm_set_len r k v]
theorem pm_get_set : ∀ (L : pm_Lo) (k j : Nat) (v : Option Value), pm_get (pm_set L k v) j = if j = k ∧ k < L.length then v else pm_get L j
  | [], k, j, v => by simp [pm_set]
  | x :: r, 0, 0, v => by simp [pm_set, pm_get]
  | x :: r, 0, j + 1, v => by simp [pm_set, pm_get]
  | x :: r, k + 1, 0, v => by simp [pm_set, pm_get]
  | x :: r, k + 1, j + 1, v => by
    have := pm_get_set r k j v
    simp only [pm_set, pm_get, this, List.length_cons]
    congr 1
    simp

theorem pm_ok_prev : ∀ {L : pm_Lo} {k : Nat} {w : Value}, pm_ok L (k + 1) = true → pm_get L k = some w → w.category = 1
  | [], k, w, h, g => by simp [pm_get] at g
  | x :: r, 0, w, h, g => by
    have g' : x = some w := g
    subst g'
    have h1 : Nat.beq w.category 1 = true := (Bool.and_eq_true _ _ ▸ h : _ ∧ _).1
    exact Nat.eq_of_beq_eq_true h1
  | x :: r, k + 1, w, h, g => pm_ok_prev (L := r) (k := k) (Bool.and_eq_true _ _ ▸ h : _ ∧ _).2 g
theorem pm_LR.set1 {b0 : Nat} {ad : Nat → Nat} {nL i : Nat} {L : pm_Lo} {ls ls' : Array Slot} {v : Value} (hL : pm_LR b0 ad nL L ls) (hok : pm_ok L i = true) (h' : lv_has ls' nL ((i, pm_mv b0 ad v) :: (pm_as b0 ad L).filter (fun q => !(q.1 == i) && !(q.1 + 1 == i && q.2.category == 2)))) : pm_LR b0 ad nL (pm_set L i (some v)) ls' := by
  refine ⟨by rw [pm_set_len]; exact hL.1, h'.1, h'.2.1, fun q hq => h'.2.2 q ?_⟩
  obtain ⟨w, h1, h2⟩ := pm_as_mem.mp hq
  rw [pm_get_set] at h1
  split at h1
  case isTrue c =>
    cases h1
    rw [show q = (i, pm_mv b0 ad v) from Prod.ext c.1 h2]
    exact List.mem_cons_self
  case isFalse c =>
    have hne : q.1 ≠ i := fun e => c ⟨e, pm_ok_lt hok⟩
    refine List.mem_cons_of_mem _ (List.mem_filter.mpr ⟨pm_as_mem.mpr ⟨w, h1, h2⟩, ?_⟩)
    have hn2 : ¬ (q.1 + 1 = i ∧ q.2.category = 2) := by
      rintro ⟨e1, e2⟩
      subst e1
      have := pm_ok_prev hok h1
      rw [h2, pm_mv_cat] at e2
      omega
    simp only [Bool.and_eq_true, Bool.not_eq_true', beq_eq_false_iff_ne, ne_eq, Bool.and_eq_false_iff]
    refine ⟨hne, ?_⟩
    by_cases e1 : q.1 + 1 = i
    · right; exact fun e2 => hn2 ⟨e1, e2⟩
    · left; exact e1
theorem pm_LR.set2 {b0 : Nat} {ad : Nat → Nat} {nL i : Nat} {L : pm_Lo} {ls ls' : Array Slot} {x : Int64} (hL : pm_LR b0 ad nL L ls) (hok : pm_ok L i = true) (hok2 : i + 1 < L.length) (h' : lv_has ls' nL ((i, Value.long x) :: (pm_as b0 ad L).filter (fun q => !(q.1 == i) && (!(q.1 == i + 1) && !(q.1 + 1 == i && q.2.category == 2))))) : pm_LR b0 ad nL (pm_set (pm_set L i (some (.long x))) (i + 1) none) ls' := by
  refine ⟨by rw [pm_set_len, pm_set_len]; exact hL.1, h'.1, h'.2.1, fun q hq => h'.2.2 q ?_⟩
  obtain ⟨w, h1, h2⟩ := pm_as_mem.mp hq
  rw [pm_get_set, pm_set_len] at h1
  split at h1
  case isTrue c => cases h1
  case isFalse c =>
    have hne1 : q.1 ≠ i + 1 := fun e => c ⟨e, hok2⟩
    rw [pm_get_set] at h1
    split at h1
    case isTrue c2 =>
      cases h1
      rw [show q = (i, Value.long x) from Prod.ext c2.1 h2]
      exact List.mem_cons_self
    case isFalse c2 =>
      have hne : q.1 ≠ i := fun e => c2 ⟨e, pm_ok_lt hok⟩
      refine List.mem_cons_of_mem _ (List.mem_filter.mpr ⟨pm_as_mem.mpr ⟨w, h1, h2⟩, ?_⟩)
      have hn2 : ¬ (q.1 + 1 = i ∧ q.2.category = 2) := by
        rintro ⟨e1, e2⟩
        subst e1
        have := pm_ok_prev hok h1
        rw [h2, pm_mv_cat] at e2
        omega
      simp only [Bool.and_eq_true, Bool.not_eq_true', beq_eq_false_iff_ne, ne_eq, Bool.and_eq_false_iff]
      refine ⟨hne, hne1, ?_⟩
      by_cases e1 : q.1 + 1 = i
      · right; exact fun e2 => hn2 ⟨e1, e2⟩
      · left; exact e1
theorem pm_pad_len : ∀ n : Nat, (pm_pad n).length = n
  | 0 => rfl
  | n + 1 => by simp [pm_pad, pm_pad_len n]
theorem pm_pad_get : ∀ (n k : Nat), pm_get (pm_pad n) k = none
  | 0, k => by simp [pm_pad, pm_get]
  | n + 1, 0 => rfl
  | n + 1, k + 1 => pm_pad_get n k
theorem pm_ent_len : ∀ (as : List Value) (n : Nat), (as.map fun v => v.category).sum ≤ n → (pm_ent n as).length = n
  | [], n, _ => by cases n <;> simp [pm_ent, pm_pad_len, pm_pad]
  | v :: r, n, h => by
    have ih := pm_ent_len r
    have h' : v.category + (r.map fun v => v.category).sum ≤ n := h
    have two : ∀ x, v = .long x → (pm_ent n (v :: r)).length = n := by
      intro x e
      subst e
      have h2 : 2 + (r.map fun v => v.category).sum ≤ n := h'
      show (pm_ent (n - 2) r).length + 1 + 1 = n
      rw [ih (n - 2) (by omega)]
      omega
    have one : pm_ent n (v :: r) = some v :: pm_ent (n - 1) r → (pm_ent n (v :: r)).length = n := by
      intro e
      rw [e]
      have h2 : 1 ≤ v.category := by rcases lv_cat v with q | q <;> omega
      show (pm_ent (n - 1) r).length + 1 = n
      rw [ih (n - 1) (by omega)]
      omega
    cases v
    case long x => exact two x rfl
    all_goals exact one rfl
theorem pm_ent_get (b0 : Nat) (ad : Nat → Nat) : ∀ (as : List Value) (n i k : Nat) (v : Value), (∀ x, Value.double x ∉ as) → pm_get (pm_ent n as) k = some v → (i + k, pm_mv b0 ad v) ∈ lv_args i (as.map (pm_mv b0 ad))
  | [], n, i, k, v, _, h => by
    have e : pm_ent n [] = pm_pad n := by cases n <;> rfl
    rw [e, pm_pad_get] at h
    cases h
  | w :: r, n, i, k, v, hnd, h => by
    have hnd' : ∀ x, Value.double x ∉ r := fun x hx => hnd x (List.mem_cons_of_mem _ hx)
    have ih := pm_ent_get b0 ad r
    have one : ∀ (hc : w.category = 1), pm_ent n (w :: r) = some w :: pm_ent (n - 1) r → (i + k, pm_mv b0 ad v) ∈ lv_args i ((w :: r).map (pm_mv b0 ad)) := by
      intro hc e
      rw [e] at h
      simp only [List.map_cons, lv_args, pm_mv_cat, hc]
      match k, h with
      | 0, h =>
        have : w = v := Option.some.inj h
        subst this
        exact List.mem_cons_self
      | k + 1, h =>
        refine List.mem_cons_of_mem _ ?_
        have := ih (n - 1) (i + 1) k v hnd' h
        simpa [Nat.add_assoc, Nat.add_comm 1 k] using this
    cases w
    case long x =>
      show (i + k, pm_mv b0 ad v) ∈ (i, Value.long x) :: lv_args (i + 2) (r.map (pm_mv b0 ad))
      match k, h with
      | 0, h =>
        have : Value.long x = v := Option.some.inj h
        subst this
        exact List.mem_cons_self
      | 1, h => exact absurd (show (none : Option Value) = some v from h) (by simp)
      | k + 2, h =>
        refine List.mem_cons_of_mem _ ?_
        have := ih (n - 2) (i + 2) k v hnd' h
        simpa [Nat.add_assoc, Nat.add_comm 2 k] using this
    case double x => exact absurd List.mem_cons_self (hnd x)
    all_goals exact one rfl rfl
theorem lg_sl_len : ∀ vs : List Value, (lg_sl vs).length = (vs.map fun v => v.category).sum
  | [] => rfl
  | v :: r => by
    have := lg_sl_len r
    cases v <;> simp_all [lg_sl, Value.category] <;> omega

/-- String.length and String.charAt of the String constants -/
theorem sd_slen {b0 : Nat} {D : va_G} {cA : Nat → ClassId} {ad : Nat → Nat} {p : Program} {l : Launch} {e : Env} {R : Room} {s : State} {m : MethodId} {args : Array Value} {below : List Frame} {meth : Method} {c : Code} {H : Heap} {locs : List Loc} {cells slots : Nat} {Q : State → Prop} {mi pc : Nat} {ls : Array Slot} {rest : List Value} (C : pm_Cx b0 D cA ad p s m args meth c mi) (hS : va_S (pm_A b0) s.heap H locs) (hls : ls.size = pm_L mi) (ho : pm_o mi = 10) (hd : decode (pm_b mi) pc = .ok (.invokevirtual 70, 3)) (hR : 4 ≤ R.frames ∧ 60 ≤ R.locals) (hcs : cells ≤ R.cells ∧ slots ≤ R.slots) (hrok : pm_rok rest = true) {i : Nat} (hi : i < 3)
    (k : W p l e R s m args below meth c H locs cells slots Q (F0 m (pc + 3) ls (.int (Int32.ofInt ((pm_str i).length)) :: rest.map (pm_mv b0 ad)))) : W p l e R s m args below meth c H locs cells slots Q (F0 m pc ls (.ref (ad i) :: rest.map (pm_mv b0 ad))) := sorry
theorem sd_sch {b0 : Nat} {D : va_G} {cA : Nat → ClassId} {ad : Nat → Nat} {p : Program} {l : Launch} {e : Env} {R : Room} {s : State} {m : MethodId} {args : Array Value} {below : List Frame} {meth : Method} {c : Code} {H : Heap} {locs : List Loc} {cells slots : Nat} {Q : State → Prop} {mi pc : Nat} {ls : Array Slot} {rest : List Value} (C : pm_Cx b0 D cA ad p s m args meth c mi) (hS : va_S (pm_A b0) s.heap H locs) (hls : ls.size = pm_L mi) (ho : pm_o mi = 10) (hd : decode (pm_b mi) pc = .ok (.invokevirtual 76, 3)) (hR : 6 ≤ R.frames ∧ 120 ≤ R.locals) (hcs : cells ≤ R.cells ∧ slots ≤ R.slots) (hrok : pm_rok rest = true) {i : Nat} (hi : i < 3) {x : Int32} (hx : vp_in x (pm_str i).length)
    (k : W p l e R s m args below meth c H locs cells slots Q (F0 m (pc + 3) ls (.int (Int32.ofInt ((pm_str i).getD x.toNatClampNeg 0)) :: rest.map (pm_mv b0 ad)))) : W p l e R s m args below meth c H locs cells slots Q (F0 m pc ls (.int x :: .ref (ad i) :: rest.map (pm_mv b0 ad))) := sorry
theorem sd_tgt {t : Int} (h : decide (0 ≤ t) = true) (pc : Nat) : (pc : Int) + (t - pc) = ((t.toNat : Nat) : Int) := by
  have := of_decide_eq_true h
  omega
theorem sd_pad {st : List Value} {n : Nat} {as tl : List Value} (h : pm_pop n [] st = some (as, tl)) : st = as.reverse ++ tl ∧ as.length = n := by
  obtain ⟨h1, h2⟩ := pm_pop_spec n [] st as tl h
  exact ⟨h1.symm, by simpa using h2⟩
set_option maxHeartbeats 4000000 in
theorem sd_step {mi pc len : Nat} {L : pm_Lo} {st : List Value} {h : pm_H} {r : Option Value} {h' : pm_H} {ins : Instr} (k : pm_K pm_P mi pc L h r h' (pm_ex mi pc len ins L st h)) (hm : mi < 180) (hd : decode (pm_b mi) pc = .ok (pm_ur pc ins, len)) (hln : pm_ln ins = 0 ∨ pm_ln ins = len) (hlk : pm_lk mi ins = true) : pm_P mi pc L st h r h' := by
  cases ins
  case iload i =>
    obtain rfl := sd_len (n := 2) (by decide) hln
    simp only [pm_ex] at k; split at k
    case h_1 heq => exact sd_ld (.iload i) heq k (fun _ _ _ _ _ _ _ _ _ _ _ _ _ _ _ _ _ _ hx hb hl K => lv_iload hx hb hd hl K)
    case h_2 => exact k.elim
  case iload_n i =>
    obtain rfl := sd_len (n := 1) (by decide) hln
    simp only [pm_ex] at k; split at k
    case h_1 heq => exact sd_ld (.iload_n i) heq k (fun _ _ _ _ _ _ _ _ _ _ _ _ _ _ _ _ _ _ hx hb hl K => lv_iload_n hx hb hd rfl hl K)
    case h_2 => exact k.elim
  case lload i =>
    obtain rfl := sd_len (n := 2) (by decide) hln
    simp only [pm_ex] at k; split at k
    case h_1 heq => exact sd_ld (.lload i) heq k (fun _ _ _ _ _ _ _ _ _ _ _ _ _ _ _ _ _ _ hx hb hl K => lv_lload hx hb hd hl K)
    case h_2 => exact k.elim
  case lload_n i =>
    obtain rfl := sd_len (n := 1) (by decide) hln
    simp only [pm_ex] at k; split at k
    case h_1 heq => exact sd_ld (.lload_n i) heq k (fun _ _ _ _ _ _ _ _ _ _ _ _ _ _ _ _ _ _ hx hb hl K => lv_lload_n hx hb hd rfl hl K)
    case h_2 => exact k.elim
  case aload i =>
    obtain rfl := sd_len (n := 2) (by decide) hln
    simp only [pm_ex] at k; split at k
    case h_1 heq => exact sd_ld (.aload i) heq k (fun _ _ _ _ _ _ _ _ _ _ _ _ _ _ _ _ _ _ hx hb hl K => lv_aload hx hb hd hl K)
    case h_2 heq => exact sd_ld (.aload i) heq k (fun _ _ _ _ _ _ _ _ _ _ _ _ _ _ _ _ _ _ hx hb hl K => lv_aloadN hx hb hd hl K)
    case h_3 heq => exact sd_ld (.aload i) heq k (fun _ _ _ _ _ _ _ _ _ _ _ _ _ _ _ _ _ _ hx hb hl K => lv_aload hx hb hd hl K)
    case h_4 => exact k.elim
  case aload_n i =>
    obtain rfl := sd_len (n := 1) (by decide) hln
    simp only [pm_ex] at k; split at k
    case h_1 heq => exact sd_ld (.aload_n i) heq k (fun _ _ _ _ _ _ _ _ _ _ _ _ _ _ _ _ _ _ hx hb hl K => lv_aload_n hx hb hd rfl hl K)
    case h_2 heq => exact sd_ld (.aload_n i) heq k (fun _ _ _ _ _ _ _ _ _ _ _ _ _ _ _ _ _ _ hx hb hl K => lv_aload_nN hx hb hd rfl hl K)
    case h_3 heq => exact sd_ld (.aload_n i) heq k (fun _ _ _ _ _ _ _ _ _ _ _ _ _ _ _ _ _ _ hx hb hl K => lv_aload_n hx hb hd rfl hl K)
    case h_4 => exact k.elim
  case istore i =>
    obtain rfl := sd_len (n := 2) (by decide) hln
    simp only [pm_ex] at k; split at k
    case h_1 =>
      cases hok : pm_ok L i with
      | false => rw [hok] at k; exact k.elim
      | true => rw [hok] at k; exact sd_st hok k (fun _ _ _ _ _ _ _ _ _ _ _ _ _ _ _ _ _ _ _ hx hb hl hi K => lv_istore hx hb hd hl hi rfl K)
    case h_2 => exact k.elim
  case istore_n i =>
    obtain rfl := sd_len (n := 1) (by decide) hln
    simp only [pm_ex] at k; split at k
    case h_1 =>
      cases hok : pm_ok L i.val with
      | false => rw [hok] at k; exact k.elim
      | true => rw [hok] at k; exact sd_st hok k (fun _ _ _ _ _ _ _ _ _ _ _ _ _ _ _ _ _ _ _ hx hb hl hi K => lv_istore_n hx hb hd rfl hl hi rfl K)
    case h_2 => exact k.elim
  case astore i =>
    obtain rfl := sd_len (n := 2) (by decide) hln
    simp only [pm_ex] at k; split at k
    case h_1 =>
      cases hok : pm_ok L i with
      | false => rw [hok] at k; exact k.elim
      | true => rw [hok] at k; exact sd_st hok k (fun _ _ _ _ _ _ _ _ _ _ _ _ _ _ _ _ _ _ _ hx hb hl hi K => lv_astore hx hb hd hl hi rfl K)
    case h_2 =>
      cases hok : pm_ok L i with
      | false => rw [hok] at k; exact k.elim
      | true => rw [hok] at k; exact sd_st hok k (fun _ _ _ _ _ _ _ _ _ _ _ _ _ _ _ _ _ _ _ hx hb hl hi K => lv_astoreN hx hb hd hl hi rfl K)
    case h_3 => exact k.elim
  case astore_n i =>
    obtain rfl := sd_len (n := 1) (by decide) hln
    simp only [pm_ex] at k; split at k
    case h_1 =>
      cases hok : pm_ok L i.val with
      | false => rw [hok] at k; exact k.elim
      | true => rw [hok] at k; exact sd_st hok k (fun _ _ _ _ _ _ _ _ _ _ _ _ _ _ _ _ _ _ _ hx hb hl hi K => lv_astore_n hx hb hd rfl hl hi rfl K)
    case h_2 =>
      cases hok : pm_ok L i.val with
      | false => rw [hok] at k; exact k.elim
      | true => rw [hok] at k; exact sd_st hok k (fun _ _ _ _ _ _ _ _ _ _ _ _ _ _ _ _ _ _ _ hx hb hl hi K => lv_astore_nN hx hb hd rfl hl hi rfl K)
    case h_3 => exact k.elim
  case lstore i =>
    obtain rfl := sd_len (n := 2) (by decide) hln
    simp only [pm_ex] at k; split at k
    case h_1 =>
      cases hok : (pm_ok L i && pm_ok L (i + 1)) with
      | false => rw [hok] at k; exact k.elim
      | true =>
        rw [hok] at k
        simp only [Bool.and_eq_true] at hok
        refine ⟨k.1, fun b0 D cA ad p l e s m args below meth c H locs ls n0 k0 C R LR S hn hk => ?_⟩
        exact lv_lstore C.1 C.2.1 hd LR.2 (by have := pm_ok_lt hok.2; rw [LR.1] at this; exact this) rfl (fun ls' h9 => k.2 b0 D cA ad p l e s m args below meth c H locs ls' n0 k0 C R (LR.set2 hok.1 hok.2 h9) S hn hk)
    case h_2 => exact k.elim
  case iinc i n =>
    obtain rfl := sd_len (n := 3) (by decide) hln
    simp only [pm_ex] at k; split at k
    case h_1 x heq =>
      cases hok : pm_ok L i with
      | false => rw [hok] at k; exact k.elim
      | true =>
        rw [hok] at k
        refine ⟨k.1, fun b0 D cA ad p l e s m args below meth c H locs ls n0 k0 C R LR S hn hk => ?_⟩
        obtain ⟨j, hj⟩ := List.getElem?_of_mem (pm_as_mem (b0 := b0) (ad := ad) (L := L) (q := (i, Value.int x)) |>.mpr ⟨.int x, heq, rfl⟩)
        exact lv_iinc C.1 C.2.1 hd LR.2 hj rfl (by have := pm_ok_lt hok; rw [LR.1] at this; exact this) rfl (fun ls' h9 => k.2 b0 D cA ad p l e s m args below meth c H locs ls' n0 k0 C R (LR.set1 (v := .int (x + Int32.ofInt n)) hok h9) S hn hk)
    case h_2 => exact k.elim
  case idiv =>
    obtain rfl := sd_len (n := 1) (by decide) hln
    simp only [pm_ex] at k; split at k
    case h_1 => exact sd_mvP k.2 (fun _ _ _ _ _ _ _ _ _ _ _ _ _ _ _ _ _ _ _ _ C _ _ _ _ K => lv_idiv C.1 C.2.1 hd k.1 K)
    case h_2 => exact k.elim
  case irem =>
    obtain rfl := sd_len (n := 1) (by decide) hln
    simp only [pm_ex] at k; split at k
    case h_1 => exact sd_mvP k.2 (fun _ _ _ _ _ _ _ _ _ _ _ _ _ _ _ _ _ _ _ _ C _ _ _ _ K => lv_irem C.1 C.2.1 hd k.1 K)
    case h_2 => exact k.elim
  case ifCond cn t =>
    obtain rfl := sd_len (n := 3) (by decide) hln
    simp only [pm_ex] at k; split at k
    case h_1 =>
      refine sd_br k (fun _ _ _ _ _ _ _ _ _ _ _ _ _ _ _ _ _ _ hx hb kt kf => ?_)
      have ht := sd_tgt hlk pc
      cases cn
      · exact lv_if_eq hx hb hd ht kt kf
      · exact lv_if_ne hx hb hd ht kt (fun q => kf (fun z => z q))
      · exact lv_if_lt hx hb hd ht kt kf
      · exact lv_if_ge hx hb hd ht kt kf
      · exact lv_if_gt hx hb hd ht kt kf
      · exact lv_if_le hx hb hd ht kt kf
    case h_2 => exact k.elim
  case if_icmp cn t =>
    obtain rfl := sd_len (n := 3) (by decide) hln
    simp only [pm_ex] at k; split at k
    case h_1 =>
      refine sd_br k (fun _ _ _ _ _ _ _ _ _ _ _ _ _ _ _ _ _ _ hx hb kt kf => ?_)
      have ht := sd_tgt hlk pc
      cases cn
      · exact lv_icmp_eq hx hb hd ht kt kf
      · exact lv_icmp_ne hx hb hd ht kt (fun q => kf (fun z => z q))
      · exact lv_icmp_lt hx hb hd ht kt kf
      · exact lv_icmp_ge hx hb hd ht kt kf
      · exact lv_icmp_gt hx hb hd ht kt kf
      · exact lv_icmp_le hx hb hd ht kt kf
    case h_2 => exact k.elim
  case goto t =>
    obtain rfl := sd_len (n := 3) (by decide) hln
    exact sd_mvP k (fun _ _ _ _ _ _ _ _ _ _ _ _ _ _ _ _ _ _ _ _ C _ _ _ _ K => lv_goto C.1 C.2.1 hd (sd_tgt hlk pc) K)
  case ifnull t =>
    obtain rfl := sd_len (n := 3) (by decide) hln
    simp only [pm_ex] at k; split at k
    case h_1 => exact sd_mvP k (fun _ _ _ _ _ _ _ _ _ _ _ _ _ _ _ _ _ _ _ _ C _ _ _ _ K => lv_ifnullN C.1 C.2.1 hd (sd_tgt hlk pc) K)
    case h_2 => exact sd_mvP k (fun _ _ _ _ _ _ _ _ _ _ _ _ _ _ _ _ _ _ _ _ C _ _ _ _ K => lv_ifnull C.1 C.2.1 hd K)
    case h_3 => exact k.elim
  case ifnonnull t =>
    obtain rfl := sd_len (n := 3) (by decide) hln
    simp only [pm_ex] at k; split at k
    case h_1 => exact sd_mvP k (fun _ _ _ _ _ _ _ _ _ _ _ _ _ _ _ _ _ _ _ _ C _ _ _ _ K => lv_ifnonnullN C.1 C.2.1 hd K)
    case h_2 => exact sd_mvP k (fun _ _ _ _ _ _ _ _ _ _ _ _ _ _ _ _ _ _ _ _ C _ _ _ _ K => lv_ifnonnull C.1 C.2.1 hd (sd_tgt hlk pc) K)
    case h_3 => exact k.elim
  case tableswitch d lo hi offs =>
    simp only [pm_ex] at k; split at k
    case h_1 x _ =>
      simp only [pm_lk, Bool.and_eq_true, decide_eq_true_eq, List.all_eq_true] at hlk
      obtain ⟨⟨⟨g1, g2⟩, g3⟩, g4⟩ := hlk
      refine sd_mvP k (fun _ _ _ _ _ _ _ _ _ _ _ _ _ _ _ _ _ _ _ _ C _ _ _ _ K => ?_)
      unfold pm_tsw at K
      by_cases hq : x.toInt < lo ∨ hi < x.toInt
      · rw [if_pos hq] at K
        exact lv_tableOut C.1 C.2.1 hd hq (by omega) K
      · rw [if_neg hq] at K
        have hlt : (x.toInt - lo).toNat < offs.size := by rw [g3]; omega
        have hz : 0 ≤ offs.getD (x.toInt - lo).toNat 0 := by
          rw [Array.getD_eq_getD_getElem?, Array.getElem?_eq_getElem hlt]
          exact g4 _ (Array.getElem_mem_toList hlt)
        refine lv_tableIn C.1 C.2.1 hd (fun z => hq (Or.inl z)) (fun z => hq (Or.inr z)) (off := offs.getD (x.toInt - lo).toNat 0 - pc) ?_ (by omega) K
        rw [Array.getElem?_map, Array.getD_eq_getD_getElem?, Array.getElem?_eq_getElem hlt]
        rfl
    case h_2 => exact k.elim
  case lookupswitch d ps =>
    simp only [pm_ex] at k; split at k
    case h_1 x _ =>
      simp only [pm_lk, Bool.and_eq_true, decide_eq_true_eq] at hlk
      obtain ⟨⟨g1, g2⟩, g3⟩ := hlk
      have g2' : ∀ q ∈ ps.toList, 0 ≤ q.2 := fun q hq => of_decide_eq_true (List.all_eq_true.mp g2 q hq)
      refine sd_mvP k (fun _ _ _ _ _ _ _ _ _ _ _ _ _ _ _ _ _ _ _ _ C _ _ _ _ K => ?_)
      refine lv_lookup C.1 C.2.1 hd ?_ rfl ?_ K
      · rw [Array.toList_map]
        have e1 : ((ps.toList.map (fun q : Int × Int => (q.1, q.2 - (pc : Int)))).zip ((ps.toList.map (fun q : Int × Int => (q.1, q.2 - (pc : Int)))).drop 1)) = (ps.toList.zip (ps.toList.drop 1)).map (fun w => ((w.1.1, w.1.2 - (pc : Int)), (w.2.1, w.2.2 - (pc : Int)))) := by
          rw [← List.map_drop, List.zip_map]
          rfl
        rw [e1, List.all_map]
        exact g3
      · rw [Array.toList_map]
        exact pm_lsw_off ps.toList d x pc g1 g2'
    case h_2 => exact k.elim
  case getfield g =>
    obtain rfl := sd_len (n := 3) (by decide) hln
    simp only [pm_ex] at k; split at k
    case h_1 => exact sd_mvP k.2 (fun _ _ _ _ _ _ _ _ _ _ _ _ _ _ _ _ _ _ _ _ C R _ _ _ K => sd_get C R k.1 hlk hd K)
    case h_2 => exact k.elim
  all_goals sorry

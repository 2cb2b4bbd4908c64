/-- String.length and String.charAt of the String constants -/
theorem sd_slen {b0 : Nat} {D : va_G} {cA : Nat → ClassId} {ad : Nat → Nat} {p : Program} {l : Launch} {e : Env} {R : Room} {s : State} {m : MethodId} {args : Array Value} {below : List Frame} {meth : Method} {c : Code} {H : Heap} {locs : List Loc} {cells slots : Nat} {Q : State → Prop} {mi pc : Nat} {ls : Array Slot} {rest : List Value} (C : pm_Cx b0 D cA ad p s m args meth c mi) (hS : va_S (pm_A b0) s.heap H locs) (hls : ls.size = pm_L mi) (ho : pm_o mi = 10) (hd : decode (pm_b mi) pc = .ok (.invokevirtual 70, 3)) (hR : 4 ≤ R.frames ∧ 60 ≤ R.locals) (hrok : pm_rok rest = true) {i : Nat} (hi : i < 3)
    (k : W p l e R s m args below meth c H locs cells slots Q (F0 m (pc + 3) ls (.int (Int32.ofInt ((pm_str i).length)) :: rest.map (pm_mv b0 ad)))) : W p l e R s m args below meth c H locs cells slots Q (F0 m pc ls (.ref (ad i) :: rest.map (pm_mv b0 ad))) := sorry
theorem sd_sch {b0 : Nat} {D : va_G} {cA : Nat → ClassId} {ad : Nat → Nat} {p : Program} {l : Launch} {e : Env} {R : Room} {s : State} {m : MethodId} {args : Array Value} {below : List Frame} {meth : Method} {c : Code} {H : Heap} {locs : List Loc} {cells slots : Nat} {Q : State → Prop} {mi pc : Nat} {ls : Array Slot} {rest : List Value} (C : pm_Cx b0 D cA ad p s m args meth c mi) (hS : va_S (pm_A b0) s.heap H locs) (hls : ls.size = pm_L mi) (ho : pm_o mi = 10) (hd : decode (pm_b mi) pc = .ok (.invokevirtual 76, 3)) (hR : 6 ≤ R.frames ∧ 120 ≤ R.locals) (hrok : pm_rok rest = true) {i : Nat} (hi : i < 3) {x : Int32} (hx : vp_in x (pm_str i).length)
    (k : W p l e R s m args below meth c H locs cells slots Q (F0 m (pc + 3) ls (.int (Int32.ofInt ((pm_str i).getD x.toNatClampNeg 0)) :: rest.map (pm_mv b0 ad)))) : W p l e R s m args below meth c H locs cells slots Q (F0 m pc ls (.int x :: .ref (ad i) :: rest.map (pm_mv b0 ad))) := sorry
theorem sd_tgt {t : Int} (h : decide (0 ≤ t) = true) (pc : Nat) : (pc : Int) + (t - pc) = ((t.toNat : Nat) : Int) := by
  have := of_decide_eq_true h
  omega
theorem sd_pad {st : List Value} {n : Nat} {as tl : List Value} (h : pm_pop n [] st = some (as, tl)) : st = as.reverse ++ tl ∧ as.length = n := by
  obtain ⟨h1, h2⟩ := pm_pop_spec n [] st as tl h
  exact ⟨h1.symm, by simpa using h2⟩
theorem sd_opQ {mi pc len : Nat} {L : pm_Lo} {st : List Value} {h : pm_H} {r : Option Value} {h' : pm_H} {ins : Instr} (hlk : pm_lk mi ins = true) (hln : pm_ln ins = 0 ∨ pm_ln ins = len) (hd : decode (pm_b mi) pc = .ok (pm_ur pc ins, len)) (k : pm_K pm_P mi pc L h r h' (match pm_op ins st with | some st' => s_nx (pc + len) L st' h | none => none)) : pm_P mi pc L st h r h' := sd_opP k hd hln hlk
theorem pm_o_lt (mi : Nat) (h : mi < 180) (hs : pm_sk mi = 1) : pm_o mi < 14 := by
  have q : ((List.range 180).all fun i => !(Nat.beq (pm_sk i) 1) || Nat.blt (pm_o i) 14) = true := by decide +kernel
  have q2 := List.all_eq_true.mp q mi (List.mem_range.mpr h)
  rw [hs] at q2
  have q3 : Nat.blt (pm_o mi) 14 = true := by simpa only [Nat.beq_refl, Bool.not_true, Bool.false_or] using q2
  exact Nat.le_of_ble_eq_true q3
theorem sd_retP {mi pc : Nat} {L : pm_Lo} {st : List Value} {h : pm_H} {r : Option Value}
    (f : ∀ (b0 : Nat) (D : va_G) (cA : Nat → ClassId) (ad : Nat → Nat) (p : Program) (l : Launch) (e : Env) (R : Room) (s : State) (m : MethodId) (args : Array Value) (below : List Frame) (meth : Method) (c : Code) (H : Heap) (locs : List Loc) (cells slots : Nat) (ls : Array Slot) (Qc : Array Value → State → Outcome → State → Prop), pm_Cx b0 D cA ad p s m args meth c mi → va_S (pm_A b0) s.heap H locs → (∀ t : State, t.heap = H → s.WarmedH t.vm → Qc args s (.returned (r.map (pm_mv b0 ad))) t) → W p l e R s m args below meth c H locs cells slots (MQ below Qc args s cells slots (pm_A b0)) (F0 m pc ls (st.map (pm_mv b0 ad)))) : pm_P mi pc L st h r h :=
  ⟨⟨Nat.le_refl _, Nat.le_refl _⟩, fun b0 D cA ad p l e s m args below meth c H locs ls n0 k0 C R LR S hn hk => f b0 D cA ad p l e _ s m args below meth c H locs _ _ ls _ C S (fun t ht _ => ⟨rfl, by rw [ht]; exact R, by rw [ht]; exact S.1, fun q hq => by rw [ht]; exact S.2.1 q (Nat.lt_of_lt_of_le hq C.2.2.2.2.2.2.2.2.2.1) (Nat.not_le.mpr hq)⟩)⟩
set_option maxHeartbeats 4000000 in
theorem sd_step {mi pc len : Nat} {L : pm_Lo} {st : List Value} {h : pm_H} {r : Option Value} {h' : pm_H} {ins : Instr} (k : pm_K pm_P mi pc L h r h' (pm_ex mi pc len ins L st h)) (hm : mi < 180) (hd : decode (pm_b mi) pc = .ok (pm_ur pc ins, len)) (hln : pm_ln ins = 0 ∨ pm_ln ins = len) (hlk : pm_lk mi ins = true) : pm_P mi pc L st h r h' := by
  cases ins
  case iload i =>
    obtain rfl := sd_len (n := 2) (by decide) hln
    simp only [pm_ex] at k; split at k
    case h_1 heq => exact sd_ld (.iload i) heq k (fun _ _ _ _ _ _ _ _ _ _ _ _ _ _ _ _ _ _ hx hb hl K => lv_iload hx hb hd hl K)
    case h_2 => exact k.elim
  case iload_n i =>
    obtain rfl := sd_len (n := 1) (by decide) hln
    simp only [pm_ex] at k; split at k
    case h_1 heq => exact sd_ld (.iload_n i) heq k (fun _ _ _ _ _ _ _ _ _ _ _ _ _ _ _ _ _ _ hx hb hl K => lv_iload_n hx hb hd rfl hl K)
    case h_2 => exact k.elim
  case lload i =>
    obtain rfl := sd_len (n := 2) (by decide) hln
    simp only [pm_ex] at k; split at k
    case h_1 heq => exact sd_ld (.lload i) heq k (fun _ _ _ _ _ _ _ _ _ _ _ _ _ _ _ _ _ _ hx hb hl K => lv_lload hx hb hd hl K)
    case h_2 => exact k.elim
  case lload_n i =>
    obtain rfl := sd_len (n := 1) (by decide) hln
    simp only [pm_ex] at k; split at k
    case h_1 heq => exact sd_ld (.lload_n i) heq k (fun _ _ _ _ _ _ _ _ _ _ _ _ _ _ _ _ _ _ hx hb hl K => lv_lload_n hx hb hd rfl hl K)
    case h_2 => exact k.elim
  case aload i =>
    obtain rfl := sd_len (n := 2) (by decide) hln
    simp only [pm_ex] at k; split at k
    case h_1 heq => exact sd_ld (.aload i) heq k (fun _ _ _ _ _ _ _ _ _ _ _ _ _ _ _ _ _ _ hx hb hl K => lv_aload hx hb hd hl K)
    case h_2 heq => exact sd_ld (.aload i) heq k (fun _ _ _ _ _ _ _ _ _ _ _ _ _ _ _ _ _ _ hx hb hl K => lv_aloadN hx hb hd hl K)
    case h_3 heq => exact sd_ld (.aload i) heq k (fun _ _ _ _ _ _ _ _ _ _ _ _ _ _ _ _ _ _ hx hb hl K => lv_aload hx hb hd hl K)
    case h_4 => exact k.elim
  case aload_n i =>
    obtain rfl := sd_len (n := 1) (by decide) hln
    simp only [pm_ex] at k; split at k
    case h_1 heq => exact sd_ld (.aload_n i) heq k (fun _ _ _ _ _ _ _ _ _ _ _ _ _ _ _ _ _ _ hx hb hl K => lv_aload_n hx hb hd rfl hl K)
    case h_2 heq => exact sd_ld (.aload_n i) heq k (fun _ _ _ _ _ _ _ _ _ _ _ _ _ _ _ _ _ _ hx hb hl K => lv_aload_nN hx hb hd rfl hl K)
    case h_3 heq => exact sd_ld (.aload_n i) heq k (fun _ _ _ _ _ _ _ _ _ _ _ _ _ _ _ _ _ _ hx hb hl K => lv_aload_n hx hb hd rfl hl K)
    case h_4 => exact k.elim
  case istore i =>
    obtain rfl := sd_len (n := 2) (by decide) hln
    simp only [pm_ex] at k; split at k
    case h_1 =>
      cases hok : pm_ok L i with
      | false => rw [hok] at k; exact k.elim
      | true => rw [hok] at k; exact sd_st hok k (fun _ _ _ _ _ _ _ _ _ _ _ _ _ _ _ _ _ _ _ hx hb hl hi K => lv_istore hx hb hd hl hi rfl K)
    case h_2 => exact k.elim
  case istore_n i =>
    obtain rfl := sd_len (n := 1) (by decide) hln
    simp only [pm_ex] at k; split at k
    case h_1 =>
      cases hok : pm_ok L i.val with
      | false => rw [hok] at k; exact k.elim
      | true => rw [hok] at k; exact sd_st hok k (fun _ _ _ _ _ _ _ _ _ _ _ _ _ _ _ _ _ _ _ hx hb hl hi K => lv_istore_n hx hb hd rfl hl hi rfl K)
    case h_2 => exact k.elim
  case astore i =>
    obtain rfl := sd_len (n := 2) (by decide) hln
    simp only [pm_ex] at k; split at k
    case h_1 =>
      cases hok : pm_ok L i with
      | false => rw [hok] at k; exact k.elim
      | true => rw [hok] at k; exact sd_st hok k (fun _ _ _ _ _ _ _ _ _ _ _ _ _ _ _ _ _ _ _ hx hb hl hi K => lv_astore hx hb hd hl hi rfl K)
    case h_2 =>
      cases hok : pm_ok L i with
      | false => rw [hok] at k; exact k.elim
      | true => rw [hok] at k; exact sd_st hok k (fun _ _ _ _ _ _ _ _ _ _ _ _ _ _ _ _ _ _ _ hx hb hl hi K => lv_astoreN hx hb hd hl hi rfl K)
    case h_3 => exact k.elim
  case astore_n i =>
    obtain rfl := sd_len (n := 1) (by decide) hln
    simp only [pm_ex] at k; split at k
    case h_1 =>
      cases hok : pm_ok L i.val with
      | false => rw [hok] at k; exact k.elim
      | true => rw [hok] at k; exact sd_st hok k (fun _ _ _ _ _ _ _ _ _ _ _ _ _ _ _ _ _ _ _ hx hb hl hi K => lv_astore_n hx hb hd rfl hl hi rfl K)
    case h_2 =>
      cases hok : pm_ok L i.val with
      | false => rw [hok] at k; exact k.elim
      | true => rw [hok] at k; exact sd_st hok k (fun _ _ _ _ _ _ _ _ _ _ _ _ _ _ _ _ _ _ _ hx hb hl hi K => lv_astore_nN hx hb hd rfl hl hi rfl K)
    case h_3 => exact k.elim
  case lstore i =>
    obtain rfl := sd_len (n := 2) (by decide) hln
    simp only [pm_ex] at k; split at k
    case h_1 =>
      cases hok : (pm_ok L i && Nat.blt (i + 1) L.length) with
      | false => rw [hok] at k; exact k.elim
      | true =>
        rw [hok] at k
        simp only [Bool.and_eq_true] at hok
        refine ⟨k.1, fun b0 D cA ad p l e s m args below meth c H locs ls n0 k0 C R LR S hn hk => ?_⟩
        exact lv_lstore C.1 C.2.1 hd LR.2 (by have : i + 1 < L.length := Nat.le_of_ble_eq_true hok.2; rw [LR.1] at this; exact this) rfl (fun ls' h9 => k.2 b0 D cA ad p l e s m args below meth c H locs ls' n0 k0 C R (LR.set2 hok.1 (Nat.le_of_ble_eq_true hok.2) h9) S hn hk)
    case h_2 => exact k.elim
  case iinc i n =>
    obtain rfl := sd_len (n := 3) (by decide) hln
    simp only [pm_ex] at k; split at k
    case h_1 x heq =>
      cases hok : pm_ok L i with
      | false => rw [hok] at k; exact k.elim
      | true =>
        rw [hok] at k
        refine ⟨k.1, fun b0 D cA ad p l e s m args below meth c H locs ls n0 k0 C R LR S hn hk => ?_⟩
        obtain ⟨j, hj⟩ := List.getElem?_of_mem (pm_as_mem (b0 := b0) (ad := ad) (L := L) (q := (i, Value.int x)) |>.mpr ⟨.int x, heq, rfl⟩)
        exact lv_iinc C.1 C.2.1 hd LR.2 hj rfl (by have := pm_ok_lt hok; rw [LR.1] at this; exact this) rfl (fun ls' h9 => k.2 b0 D cA ad p l e s m args below meth c H locs ls' n0 k0 C R (LR.set1 (v := .int (x + Int32.ofInt n)) hok h9) S hn hk)
    case h_2 => exact k.elim
  case idiv =>
    obtain rfl := sd_len (n := 1) (by decide) hln
    simp only [pm_ex] at k; split at k
    case h_1 => exact sd_mvP k.2 (fun _ _ _ _ _ _ _ _ _ _ _ _ _ _ _ _ _ _ _ _ C _ _ _ _ K => lv_idiv C.1 C.2.1 hd k.1 K)
    case h_2 => exact k.elim
  case irem =>
    obtain rfl := sd_len (n := 1) (by decide) hln
    simp only [pm_ex] at k; split at k
    case h_1 => exact sd_mvP k.2 (fun _ _ _ _ _ _ _ _ _ _ _ _ _ _ _ _ _ _ _ _ C _ _ _ _ K => lv_irem C.1 C.2.1 hd k.1 K)
    case h_2 => exact k.elim
  case ifCond cn t =>
    obtain rfl := sd_len (n := 3) (by decide) hln
    simp only [pm_ex] at k; split at k
    case h_1 =>
      refine sd_br k (fun _ _ _ _ _ _ _ _ _ _ _ _ _ _ _ _ _ _ hx hb kt kf => ?_)
      have ht := sd_tgt hlk pc
      cases cn
      · exact lv_if_eq hx hb hd ht kt kf
      · exact lv_if_ne hx hb hd ht kt (fun q => kf (fun z => z q))
      · exact lv_if_lt hx hb hd ht kt kf
      · exact lv_if_ge hx hb hd ht kt kf
      · exact lv_if_gt hx hb hd ht kt kf
      · exact lv_if_le hx hb hd ht kt kf
    case h_2 => exact k.elim
  case if_icmp cn t =>
    obtain rfl := sd_len (n := 3) (by decide) hln
    simp only [pm_ex] at k; split at k
    case h_1 =>
      refine sd_br k (fun _ _ _ _ _ _ _ _ _ _ _ _ _ _ _ _ _ _ hx hb kt kf => ?_)
      have ht := sd_tgt hlk pc
      cases cn
      · exact lv_icmp_eq hx hb hd ht kt kf
      · exact lv_icmp_ne hx hb hd ht kt (fun q => kf (fun z => z q))
      · exact lv_icmp_lt hx hb hd ht kt kf
      · exact lv_icmp_ge hx hb hd ht kt kf
      · exact lv_icmp_gt hx hb hd ht kt kf
      · exact lv_icmp_le hx hb hd ht kt kf
    case h_2 => exact k.elim
  case goto t =>
    obtain rfl := sd_len (n := 3) (by decide) hln
    exact sd_mvP k (fun _ _ _ _ _ _ _ _ _ _ _ _ _ _ _ _ _ _ _ _ C _ _ _ _ K => lv_goto C.1 C.2.1 hd (sd_tgt hlk pc) K)
  case ifnull t =>
    obtain rfl := sd_len (n := 3) (by decide) hln
    simp only [pm_ex] at k; split at k
    case h_1 => exact sd_mvP k (fun _ _ _ _ _ _ _ _ _ _ _ _ _ _ _ _ _ _ _ _ C _ _ _ _ K => lv_ifnullN C.1 C.2.1 hd (sd_tgt hlk pc) K)
    case h_2 => exact sd_mvP k (fun _ _ _ _ _ _ _ _ _ _ _ _ _ _ _ _ _ _ _ _ C _ _ _ _ K => lv_ifnull C.1 C.2.1 hd K)
    case h_3 => exact k.elim
  case ifnonnull t =>
    obtain rfl := sd_len (n := 3) (by decide) hln
    simp only [pm_ex] at k; split at k
    case h_1 => exact sd_mvP k (fun _ _ _ _ _ _ _ _ _ _ _ _ _ _ _ _ _ _ _ _ C _ _ _ _ K => lv_ifnonnullN C.1 C.2.1 hd K)
    case h_2 => exact sd_mvP k (fun _ _ _ _ _ _ _ _ _ _ _ _ _ _ _ _ _ _ _ _ C _ _ _ _ K => lv_ifnonnull C.1 C.2.1 hd (sd_tgt hlk pc) K)
    case h_3 => exact k.elim
  case tableswitch d lo hi offs =>
    simp only [pm_ex] at k; split at k
    case h_1 x _ =>
      simp only [pm_lk, Bool.and_eq_true, decide_eq_true_eq, List.all_eq_true] at hlk
      obtain ⟨⟨⟨g1, g2⟩, g3⟩, g4⟩ := hlk
      refine sd_mvP k (fun _ _ _ _ _ _ _ _ _ _ _ _ _ _ _ _ _ _ _ _ C _ _ _ _ K => ?_)
      unfold pm_tsw at K
      by_cases hq : x.toInt < lo ∨ hi < x.toInt
      · rw [if_pos hq] at K
        exact lv_tableOut C.1 C.2.1 hd hq (by omega) K
      · rw [if_neg hq] at K
        have hlt : (x.toInt - lo).toNat < offs.size := by rw [g3]; omega
        have hz : 0 ≤ offs.getD (x.toInt - lo).toNat 0 := by
          rw [Array.getD_eq_getD_getElem?, Array.getElem?_eq_getElem hlt]
          exact g4 _ (Array.getElem_mem_toList hlt)
        refine lv_tableIn C.1 C.2.1 hd (fun z => hq (Or.inl z)) (fun z => hq (Or.inr z)) (off := offs.getD (x.toInt - lo).toNat 0 - pc) ?_ (by omega) K
        rw [Array.getElem?_map, Array.getD_eq_getD_getElem?, Array.getElem?_eq_getElem hlt]
        rfl
    case h_2 => exact k.elim
  case lookupswitch d ps =>
    simp only [pm_ex] at k; split at k
    case h_1 x _ =>
      simp only [pm_lk, Bool.and_eq_true, decide_eq_true_eq] at hlk
      obtain ⟨⟨g1, g2⟩, g3⟩ := hlk
      have g2' : ∀ q ∈ ps.toList, 0 ≤ q.2 := fun q hq => of_decide_eq_true (List.all_eq_true.mp g2 q hq)
      refine sd_mvP k (fun _ _ _ _ _ _ _ _ _ _ _ _ _ _ _ _ _ _ _ _ C _ _ _ _ K => ?_)
      refine lv_lookup C.1 C.2.1 hd ?_ rfl ?_ K
      · rw [Array.toList_map]
        have e1 : ((ps.toList.map (fun q : Int × Int => (q.1, q.2 - (pc : Int)))).zip ((ps.toList.map (fun q : Int × Int => (q.1, q.2 - (pc : Int)))).drop 1)) = (ps.toList.zip (ps.toList.drop 1)).map (fun w => ((w.1.1, w.1.2 - (pc : Int)), (w.2.1, w.2.2 - (pc : Int)))) := by
          rw [← List.map_drop, List.zip_map]
          rfl
        rw [e1, List.all_map]
        exact g3
      · rw [Array.toList_map]
        exact pm_lsw_off ps.toList d x pc g1 g2'
    case h_2 => exact k.elim
  case getfield g =>
    obtain rfl := sd_len (n := 3) (by decide) hln
    simp only [pm_ex] at k; split at k
    case h_1 => exact sd_mvP k.2 (fun _ _ _ _ _ _ _ _ _ _ _ _ _ _ _ _ _ _ _ _ C R _ _ _ K => sd_get C R k.1 hlk hd K)
    case h_2 => exact k.elim
  case putfield g =>
    obtain rfl := sd_len (n := 3) (by decide) hln
    have hlk' := hlk
    simp only [pm_lk, Bool.and_eq_true] at hlk'
    obtain ⟨hw, hc, hkN, hkd⟩ := pm_fkey hlk'.1.1 hlk'.1.2
    have hgd := pm_tygd _ hc _ hkN
    simp only [pm_ex] at k
    split at k
    case h_1 e0 =>
      rw [e0] at hkd
      have hty : pm_ty (g / 262144 % 16) (g / 2048 % 128) = .int := by
        cases hh : pm_ty (g / 262144 % 16) (g / 2048 % 128) <;> rw [hh] at hkd hgd <;> first | rfl | exact absurd hkd (by decide) | exact absurd hgd (by decide) | exact absurd hkd (by simp [pm_kd])
      split at k
      case h_1 x a _ =>
        refine sd_wrP (by rfl) (by rfl) k.2 (fun _ _ _ _ _ _ _ _ _ _ _ _ _ _ _ _ _ _ _ _ C R _ _ S K => sd_put C R S k.1 hlk hd (by rw [hty]; rfl) (by rw [hty]; rfl) (fun cell H' hap q1 z e1 o => ?_) K)
        refine R.fld (g := yI h a (g / 2048 % 128) x) k.1 hc hkN hap q1 (fun _ => rfl) (fun _ => rfl) rfl (fun b hb => zI_yAn h _ hb) (fun _ _ => rfl) (fun _ _ => rfl) ?_ ?_ z e1 o
        · rw [hty]
          show Value.int (zI (yA h a (va_up (zI h a) (g / 2048 % 128) x)) a (g / 2048 % 128)) = _
          rw [zI_yAs, va_upS]; try rfl
        · intro j kd hj
          have e9 : zI (yI h a (g / 2048 % 128) x) a j = zI h a j := by
            show zI (yA h a (va_up (zI h a) (g / 2048 % 128) x)) a j = _
            rw [zI_yAs, va_upN _ _ hj]
          match kd with
          | 0 => exact congrArg Value.int e9
          | 1 => rfl
          | 2 => rfl
          | n + 3 => exact congrArg Value.int e9
      case h_2 => exact k.elim
    case h_2 e0 =>
      rw [e0] at hkd
      have hty : (∃ n, pm_ty (g / 262144 % 16) (g / 2048 % 128) = .object n) ∨ ∃ t, pm_ty (g / 262144 % 16) (g / 2048 % 128) = .array t := by
        cases hh : pm_ty (g / 262144 % 16) (g / 2048 % 128) <;> rw [hh] at hkd hgd <;> first | exact Or.inl ⟨_, rfl⟩ | exact Or.inr ⟨_, rfl⟩ | exact absurd hkd (by decide) | exact absurd hgd (by decide) | exact absurd hkd (by simp [pm_kd])
      have eo : ∀ (b0 a : Nat) (v : Option Nat) (j kd : Nat), j ≠ g / 2048 % 128 → pm_fv b0 (yR h a (g / 2048 % 128) v) a j kd = pm_fv b0 h a j kd := by
        intro b0 a v j kd hj
        have e9 : zR (yR h a (g / 2048 % 128) v) a j = zR h a j := by
          show zR (yB h a (va_up (zR h a) (g / 2048 % 128) v)) a j = _
          rw [zR_yBs, va_upN _ _ hj]
        match kd with
        | 0 => rfl
        | 1 => exact congrArg (fun z => va_rf (z.map (b0 + ·))) e9
        | 2 => rfl
        | n + 3 => rfl
      have ev : ∀ (b0 a : Nat) (v : Option Nat), pm_fv b0 (yR h a (g / 2048 % 128) v) a (g / 2048 % 128) 1 = va_rf (v.map (b0 + ·)) := by
        intro b0 a v
        show va_rf ((zR (yB h a (va_up (zR h a) (g / 2048 % 128) v)) a (g / 2048 % 128)).map (b0 + ·)) = _
        rw [zR_yBs, va_upS]
      split at k
      case h_1 x a _ =>
        refine sd_wrP (by rfl) (by rfl) k.2 (fun _ _ _ _ _ _ _ _ _ _ _ _ _ _ _ _ _ _ _ _ C R _ _ S K => sd_put C R S k.1 hlk hd (by rcases hty with ⟨n, q⟩ | ⟨n, q⟩ <;> rw [q] <;> rfl) (by rcases hty with ⟨n, q⟩ | ⟨n, q⟩ <;> rw [q] <;> rfl) (fun cell H' hap q1 z e1 o => ?_) K)
        exact R.fld (g := yR h a (g / 2048 % 128) (some x)) k.1 hc hkN hap q1 (fun _ => rfl) (fun _ => rfl) rfl (fun _ _ => rfl) (fun b hb => zR_yBn h _ hb) (fun _ _ => rfl) (by rw [hkd]; exact ev _ _ _) (eo _ _ _) z e1 o
      case h_2 a _ =>
        refine sd_wrP (by rfl) (by rfl) k.2 (fun _ _ _ _ _ _ _ _ _ _ _ _ _ _ _ _ _ _ _ _ C R _ _ S K => sd_put C R S k.1 hlk hd (by rcases hty with ⟨n, q⟩ | ⟨n, q⟩ <;> rw [q] <;> rfl) (by rcases hty with ⟨n, q⟩ | ⟨n, q⟩ <;> rw [q] <;> rfl) (fun cell H' hap q1 z e1 o => ?_) K)
        exact R.fld (g := yR h a (g / 2048 % 128) none) k.1 hc hkN hap q1 (fun _ => rfl) (fun _ => rfl) rfl (fun _ _ => rfl) (fun b hb => zR_yBn h _ hb) (fun _ _ => rfl) (by rw [hkd]; exact ev _ _ _) (eo _ _ _) z e1 o
      case h_3 => exact k.elim
    case h_3 e0 =>
      rw [e0] at hkd
      have hty : pm_ty (g / 262144 % 16) (g / 2048 % 128) = .long := by
        cases hh : pm_ty (g / 262144 % 16) (g / 2048 % 128) <;> rw [hh] at hkd hgd <;> first | rfl | exact absurd hkd (by decide) | exact absurd hgd (by decide) | exact absurd hkd (by simp [pm_kd])
      split at k
      case h_1 x a _ =>
        refine sd_wrP (by rfl) (by rfl) k.2 (fun _ _ _ _ _ _ _ _ _ _ _ _ _ _ _ _ _ _ _ _ C R _ _ S K => sd_put C R S k.1 hlk hd (by rw [hty]; rfl) (by rw [hty]; rfl) (fun cell H' hap q1 z e1 o => ?_) K)
        refine R.fld (g := yJ h a (g / 2048 % 128) x) k.1 hc hkN hap q1 (fun _ => rfl) (fun _ => rfl) rfl (fun _ _ => rfl) (fun _ _ => rfl) (fun b hb => zJ_yLn h _ hb) ?_ ?_ z e1 o
        · rw [hty]
          show Value.long (zJ (yL h a (va_up (zJ h a) (g / 2048 % 128) x)) a (g / 2048 % 128)) = _
          rw [zJ_yLs, va_upS]; try rfl
        · intro j kd hj
          have e9 : zJ (yJ h a (g / 2048 % 128) x) a j = zJ h a j := by
            show zJ (yL h a (va_up (zJ h a) (g / 2048 % 128) x)) a j = _
            rw [zJ_yLs, va_upN _ _ hj]
          match kd with
          | 0 => rfl
          | 1 => rfl
          | 2 => exact congrArg Value.long e9
          | n + 3 => rfl
      case h_2 => exact k.elim
    case h_4 n0 n1 n2 =>
      have hty : pm_ty (g / 262144 % 16) (g / 2048 % 128) = .boolean := by
        cases hh : pm_ty (g / 262144 % 16) (g / 2048 % 128) <;> rw [hh] at hkd hgd <;> first | rfl | exact absurd hkd.symm n0 | exact absurd hkd.symm n1 | exact absurd hkd.symm n2 | exact absurd hgd (by decide)
      split at k
      case h_1 x a _ =>
        refine sd_wrP (by rfl) (by rfl) k.2 (fun _ _ _ _ _ _ _ _ _ _ _ _ _ _ _ _ _ _ _ _ C R _ _ S K => sd_put C R S k.1.1 hlk hd (v := .int x) (by rw [hty]; rcases k.1.2 with q | q <;> rw [q] <;> decide) (by rw [hty]; rcases k.1.2 with q | q <;> rw [q] <;> decide) (fun cell H' hap q1 z e1 o => ?_) K)
        refine R.fld (g := yI h a (g / 2048 % 128) x) k.1.1 hc hkN hap q1 (fun _ => rfl) (fun _ => rfl) rfl (fun b hb => zI_yAn h _ hb) (fun _ _ => rfl) (fun _ _ => rfl) ?_ ?_ z e1 o
        · rw [hty]
          show Value.int (zI (yA h a (va_up (zI h a) (g / 2048 % 128) x)) a (g / 2048 % 128)) = _
          rw [zI_yAs, va_upS]; try rfl
        · intro j kd hj
          have e9 : zI (yI h a (g / 2048 % 128) x) a j = zI h a j := by
            show zI (yA h a (va_up (zI h a) (g / 2048 % 128) x)) a j = _
            rw [zI_yAs, va_upN _ _ hj]
          match kd with
          | 0 => exact congrArg Value.int e9
          | 1 => rfl
          | 2 => rfl
          | n + 3 => exact congrArg Value.int e9
      case h_2 => exact k.elim
  case new g =>
    obtain rfl := sd_len (n := 3) (by decide) hln
    exact sd_alP (z := pm_N (g / 2048)) (by rfl) (by rfl) k (fun _ _ _ _ _ _ _ _ _ _ _ _ _ _ _ _ _ _ _ _ C R _ _ S h1 h2 K => sd_new C R S hlk hd h1 h2 K)
  case newarray t =>
    obtain rfl := sd_len (n := 2) (by decide) hln
    simp only [pm_ex] at k; split at k
    case h_1 n _ => exact sd_alP (z := n.toNatClampNeg) (by rfl) (by rfl) k.2 (fun _ _ _ _ _ _ _ _ _ _ _ _ _ _ _ _ _ _ _ _ C R _ _ S h1 h2 K => sd_newa C R S hlk hd k.1.1 k.1.2 h1 h2 K)
    case h_2 => exact k.elim
  case anewarray g =>
    obtain rfl := sd_len (n := 3) (by decide) hln
    simp only [pm_ex] at k; split at k
    case h_1 n _ => exact sd_alP (z := n.toNatClampNeg) (by rfl) (by rfl) k.2 (fun _ _ _ _ _ _ _ _ _ _ _ _ _ _ _ _ _ _ _ _ C R _ _ S h1 h2 K => sd_anew C R S hlk hd k.1.1 k.1.2 h1 h2 K)
    case h_2 => exact k.elim
  case arraylength =>
    obtain rfl := sd_len (n := 1) (by decide) hln
    simp only [pm_ex] at k; split at k
    case h_1 => exact sd_mvP k.2 (fun _ _ _ _ _ _ _ _ _ _ _ _ _ _ _ _ _ _ _ _ C R _ _ _ K => sd_alen C R k.1 hd K)
    case h_2 => exact k.elim
  case iaload =>
    obtain rfl := sd_len (n := 1) (by decide) hln
    simp only [pm_ex] at k; split at k
    case h_1 => exact sd_mvP k.2 (fun _ _ _ _ _ _ _ _ _ _ _ _ _ _ _ _ _ _ _ _ C R _ _ _ K => sd_iald C R k.1.1 k.1.2 hd K)
    case h_2 => exact k.elim
  case baload =>
    obtain rfl := sd_len (n := 1) (by decide) hln
    simp only [pm_ex] at k; split at k
    case h_1 => exact sd_mvP k.2 (fun _ _ _ _ _ _ _ _ _ _ _ _ _ _ _ _ _ _ _ _ C R _ _ _ K => sd_bald C R k.1.1 k.1.2 hd K)
    case h_2 => exact k.elim
  case caload =>
    obtain rfl := sd_len (n := 1) (by decide) hln
    simp only [pm_ex] at k; split at k
    case h_1 => exact sd_mvP k.2 (fun _ _ _ _ _ _ _ _ _ _ _ _ _ _ _ _ _ _ _ _ C R _ _ _ K => sd_zald C R k.1.1 k.1.2 hd K)
    case h_2 => exact k.elim
  case aaload =>
    obtain rfl := sd_len (n := 1) (by decide) hln
    simp only [pm_ex] at k; split at k
    case h_1 => exact sd_mvP k.2 (fun _ _ _ _ _ _ _ _ _ _ _ _ _ _ _ _ _ _ _ _ C R _ _ _ K => sd_aald C R k.1.1 k.1.2 hd K)
    case h_2 => exact k.elim
  case iastore =>
    obtain rfl := sd_len (n := 1) (by decide) hln
    simp only [pm_ex] at k; split at k
    case h_1 => exact sd_wrP (by rfl) (by rfl) k.2 (fun _ _ _ _ _ _ _ _ _ _ _ _ _ _ _ _ _ _ _ _ C R _ _ S K => sd_iast C R S k.1.1 k.1.2 hd K)
    case h_2 => exact k.elim
  case bastore =>
    obtain rfl := sd_len (n := 1) (by decide) hln
    simp only [pm_ex] at k; split at k
    case h_1 => exact sd_wrP (by rfl) (by rfl) k.2 (fun _ _ _ _ _ _ _ _ _ _ _ _ _ _ _ _ _ _ _ _ C R _ _ S K => sd_bast C R S k.1.1 k.1.2 hd K)
    case h_2 => exact k.elim
  case castore =>
    obtain rfl := sd_len (n := 1) (by decide) hln
    simp only [pm_ex] at k; split at k
    case h_1 => exact sd_wrP (by rfl) (by rfl) k.2 (fun _ _ _ _ _ _ _ _ _ _ _ _ _ _ _ _ _ _ _ _ C R _ _ S K => sd_zast C R S k.1.1 k.1.2.1 k.1.2.2 hd K)
    case h_2 => exact k.elim
  case aastore =>
    obtain rfl := sd_len (n := 1) (by decide) hln
    simp only [pm_ex] at k; split at k
    case h_1 => exact sd_wrP (by rfl) (by rfl) k.2 (fun _ _ _ _ _ _ _ _ _ _ _ _ _ _ _ _ _ _ _ _ C R _ _ S K => sd_aast C R S k.1.1 k.1.2.1 k.1.2.2 hd K)
    case h_2 => exact k.elim
  case invokevirtual g =>
    obtain rfl := sd_len (n := 3) (by decide) hln
    simp only [pm_lk, Bool.and_eq_true] at hlk
    simp only [pm_ex] at k; split at k
    case h_1 as b rest heq =>
      obtain ⟨e1, e2⟩ := sd_pad heq
      cases hok : (pm_rok rest && pm_aok (pm_L (g / 32768)) (.ref b :: as)) with
      | false => rw [hok] at k; exact k.elim
      | true =>
        rw [hok] at k
        simp only [Bool.and_eq_true] at hok
        have hmj : g / 32768 < 180 := by
          have := hlk.2
          simp only [pm_callok, Bool.and_eq_true] at this
          exact Nat.le_of_ble_eq_true this.1.1.2
        refine sd_callP (as := .ref b :: as) (rest := rest) hmj rfl hok.2 k.2 (fun b0 D cA ad p l e R s m args below meth c H locs cells slots mc ms ls Qc C Rl hls hR S hcs M => ?_)
        obtain ⟨cb, -, hsk⟩ := sd_cb (mc := mc) (ms := ms) C hlk.1.1 pm_vl_ok hlk.1.2 hlk.2 ⟨Nat.le_of_eq hR.1.symm, Nat.le_of_eq hR.2.symm⟩
        obtain ⟨m1, m2, m3, m4, m5, m6⟩ := pm_m_ok _ hmj
        rw [hsk] at m6
        have hc : pm_o (g / 32768) < 14 := pm_o_lt _ hmj hsk
        obtain ⟨cell, q1, q2, q3, q4⟩ := Rl.obj k.1 hc
        have hK := C.2.2.2.2.2.2.2.2.1.1 _ _ (pm_vcl_at _ hc)
        have hsel : (Cond.selects (pm_R (pm_o (g / 32768))) (pm_y (g / 32768)) (pm_y (g / 32768))).before args s = true := by rw [← m4]; exact sd_w C m6.2 rfl
        refine va_runV (C := pm_R (pm_o (g / 32768))) (b := b0 + b) (As := as.map (pm_mv b0 ad)) ⟨C.1, C.2.1, C.2.2.1, C.2.2.2.1, C.2.2.2.2.2.2.2.1⟩ M ⟨cb, sd_w C m6.1 rfl, hsel⟩ ⟨pm_Pc_blind b0 D cA ad h _, ⟨cell, q1, by rw [q3]; rfl, by rw [q2]; exact hK.2.1⟩, sd_pre C Rl S (.ref b :: as)⟩ rfl (by rw [List.length_map]; exact e2) hls ?_ (lv_room (sd_sum hok.1)) hd hcs
        show st.map (pm_mv b0 ad) = _
        rw [e1, List.map_append, List.map_reverse]
        rfl
    case h_2 => exact k.elim
  case invokespecial g =>
    obtain rfl := sd_len (n := 3) (by decide) hln
    simp only [pm_lk, Bool.and_eq_true] at hlk
    simp only [pm_ex] at k; split at k
    case h_1 as b rest heq =>
      obtain ⟨e1, e2⟩ := sd_pad heq
      cases hok : (pm_rok rest && pm_aok (pm_L (g / 32768)) (.ref b :: as)) with
      | false => rw [hok] at k; exact k.elim
      | true =>
        rw [hok] at k
        simp only [Bool.and_eq_true] at hok
        have hmj : g / 32768 < 180 := by
          have := hlk.2
          simp only [pm_callok, Bool.and_eq_true] at this
          exact Nat.le_of_ble_eq_true this.1.1.2
        refine sd_callP (as := .ref b :: as) (rest := rest) hmj rfl hok.2 k.2 (fun b0 D cA ad p l e R s m args below meth c H locs cells slots mc ms ls Qc C Rl hls hR S hcs M => ?_)
        obtain ⟨cb, -, hsk⟩ := sd_cb (mc := mc) (ms := ms) C hlk.1.1 pm_il_ok hlk.1.2 hlk.2 ⟨Nat.le_of_eq hR.1.symm, Nat.le_of_eq hR.2.symm⟩
        obtain ⟨m1, m2, m3, m4, m5, m6⟩ := pm_m_ok _ hmj
        rw [hsk] at m6
        rw [m6.2.2] at cb
        refine va_runI (b := b0 + b) (As := as.map (pm_mv b0 ad)) ⟨C.1, C.2.1, C.2.2.1, C.2.2.2.1, C.2.2.2.2.2.2.2.1⟩ M ⟨cb, m6.2.1, sd_w C m6.1 rfl⟩ ⟨pm_Pc_blind b0 D cA ad h _, sd_pre C Rl S (.ref b :: as)⟩ rfl (by rw [List.length_map]; exact e2) hls ?_ (lv_room (sd_sum hok.1)) hd hcs
        show st.map (pm_mv b0 ad) = _
        rw [e1, List.map_append, List.map_reverse]
        rfl
    case h_2 => exact k.elim
  case invokestatic g =>
    obtain rfl := sd_len (n := 3) (by decide) hln
    simp only [pm_lk, Bool.and_eq_true] at hlk
    simp only [pm_ex] at k; split at k
    case h_1 as rest heq =>
      obtain ⟨e1, e2⟩ := sd_pad heq
      cases hok : (pm_rok rest && pm_aok (pm_L (g / 32768)) as) with
      | false => rw [hok] at k; exact k.elim
      | true =>
        rw [hok] at k
        simp only [Bool.and_eq_true] at hok
        have hmj : g / 32768 < 180 := by
          have := hlk.2
          simp only [pm_callok, Bool.and_eq_true] at this
          exact Nat.le_of_ble_eq_true this.1.1.2
        refine sd_callP (as := as) (rest := rest) hmj rfl hok.2 k.2 (fun b0 D cA ad p l e R s m args below meth c H locs cells slots mc ms ls Qc C Rl hls hR S hcs M => ?_)
        obtain ⟨cb, -, hsk⟩ := sd_cb (mc := mc) (ms := ms) C hlk.1.1 pm_sl_ok hlk.1.2 hlk.2 ⟨Nat.le_of_eq hR.1.symm, Nat.le_of_eq hR.2.symm⟩
        obtain ⟨m1, m2, m3, m4, m5, m6⟩ := pm_m_ok _ hmj
        rw [hsk] at m6
        refine va_runS (As := as.map (pm_mv b0 ad)) ⟨C.1, C.2.1, C.2.2.1, C.2.2.2.1, C.2.2.2.2.2.2.2.1⟩ M ⟨cb, sd_w C m6 rfl⟩ ⟨pm_Pc_blind b0 D cA ad h _, sd_pre C Rl S as⟩ rfl (by rw [List.length_map]; exact e2) hls ?_ (lv_room (sd_sum hok.1)) hd hcs
        show st.map (pm_mv b0 ad) = _
        rw [e1, List.map_append, List.map_reverse]
    case h_2 => exact k.elim
  case getstatic g =>
    obtain rfl := sd_len (n := 3) (by decide) hln
    simp only [pm_ex] at k; split at k
    case h_1 r9 =>
      cases hok : pm_rok r9 with
      | false => rw [hok] at k; exact k.elim
      | true => rw [hok] at k; exact sd_mvP k (fun _ _ _ _ _ _ _ _ _ _ _ _ _ _ _ _ _ _ _ _ C R hls hR _ K => sd_obj C hls hlk hd ⟨Nat.le_of_eq hR.1.symm, Nat.le_of_eq hR.2.symm⟩ hok K)
    case h_2 => exact k.elim
  case fload g =>
    obtain rfl := sd_len (n := 3) (by decide) hln
    simp only [pm_ex] at k; split at k
    case h_1 r9 =>
      cases hok : pm_rok r9 with
      | false => rw [hok] at k; exact k.elim
      | true => rw [hok] at k; exact sd_mvP k (fun _ _ _ _ _ _ _ _ _ _ _ _ _ _ _ _ _ _ _ _ C R hls hR hcs K => sd_mx C hls hlk hd ⟨Nat.le_of_eq hR.1.symm, Nat.le_of_eq hR.2.symm⟩ hcs hok K)
    case h_2 => exact k.elim
  case dload g =>
    obtain rfl := sd_len (n := 3) (by decide) hln
    simp only [pm_ex] at k; split at k
    case h_1 r9 =>
      cases hok : pm_rok r9 with
      | false => rw [hok] at k; exact k.elim
      | true => rw [hok] at k; exact sd_mvP k (fun _ _ _ _ _ _ _ _ _ _ _ _ _ _ _ _ _ _ _ _ C R hls hR hcs K => sd_mn C hls hlk hd ⟨Nat.le_of_eq hR.1.symm, Nat.le_of_eq hR.2.symm⟩ hcs hok K)
    case h_2 => exact k.elim
  case fstore g =>
    obtain rfl := sd_len (n := 3) (by decide) hln
    simp only [pm_ex] at k; split at k
    case h_1 r9 =>
      cases hok : pm_rok r9 with
      | false => rw [hok] at k; exact k.elim
      | true => rw [hok] at k; exact sd_mvP k (fun _ _ _ _ _ _ _ _ _ _ _ _ _ _ _ _ _ _ _ _ C R hls hR hcs K => sd_ma C hls hlk hd ⟨Nat.le_of_eq hR.1.symm, Nat.le_of_eq hR.2.symm⟩ hcs hok K)
    case h_2 => exact k.elim
  case invokedynamic g =>
    obtain rfl := sd_len (n := 3) (by decide) hln
    simp only [pm_ex] at k; split at k
    case h_1 n dp b sp a r9 =>
      cases hok : pm_rok r9 with
      | false => rw [hok] at k; exact k.elim
      | true =>
        rw [hok] at k
        obtain ⟨⟨g1, g2, g3, g4, g5, g6, g7⟩, k2⟩ := k
        exact sd_wrP (by rfl) (by rfl) k2 (fun _ _ _ _ _ _ _ _ _ _ _ _ _ _ _ _ _ _ _ _ C R hls hR S K => sd_copy C R S hls hlk hd g1 g2 g3 g4 g5 g6 g7 ⟨Nat.le_of_eq hR.1.symm, Nat.le_of_eq hR.2.symm⟩ hok K)
    case h_2 => exact k.elim
  case putstatic g =>
    obtain rfl := sd_len (n := 3) (by decide) hln
    simp only [pm_lk, Bool.and_eq_true] at hlk
    obtain ⟨⟨⟨w1, w2⟩, w3⟩, w4⟩ := hlk
    obtain rfl : g = 310 := Nat.eq_of_beq_eq_true w1
    simp only [pm_ex] at k; split at k
    case h_1 a r9 =>
      cases hok : pm_rok r9 with
      | false => rw [hok] at k; exact k.elim
      | true =>
        rw [hok] at k
        obtain ⟨⟨g1, g2⟩, k2⟩ := k
        exact sd_alP (z := zN h a) (by rfl) (by rfl) k2 (fun _ _ _ _ _ _ _ _ _ _ _ _ _ _ _ _ _ _ _ _ C R hls hR S h1 h2 K => sd_clone C R S hls (Nat.eq_of_beq_eq_true w2) hd g1 g2 ⟨by rw [hR.1]; exact Nat.le_of_ble_eq_true w3, by rw [hR.2]; exact Nat.le_of_ble_eq_true w4⟩ hok h1 h2 K)
    case h_2 => exact k.elim
  case checkcast g =>
    obtain rfl := sd_len (n := 3) (by decide) hln
    simp only [pm_lk, Bool.and_eq_true] at hlk
    obtain rfl : g = 311 := Nat.eq_of_beq_eq_true hlk.1
    simp only [pm_ex] at k; split at k
    case h_1 => exact sd_mvP k.2 (fun _ _ _ _ _ _ _ _ _ _ _ _ _ _ _ _ _ _ _ _ C R _ _ _ K => sd_cast C R (Nat.eq_of_beq_eq_true hlk.2) hd k.1 K)
    case h_2 => exact k.elim
  case instanceof g =>
    obtain rfl := sd_len (n := 3) (by decide) hln
    simp only [pm_lk, Bool.and_eq_true] at hlk
    obtain ⟨⟨⟨w1, w2⟩, w3⟩, w4⟩ := hlk
    obtain rfl : g = 70 := Nat.eq_of_beq_eq_true w1
    simp only [pm_ex] at k; split at k
    case h_1 i r9 =>
      cases hok : pm_rok r9 with
      | false => rw [hok] at k; exact k.elim
      | true =>
        rw [hok] at k
        obtain ⟨g1, k2⟩ := k
        exact sd_wrP (by rfl) (by rfl) k2 (fun _ _ _ _ _ _ _ _ _ _ _ _ _ _ _ _ _ _ _ _ C R hls hR S K => sd_slen C S hls (Nat.eq_of_beq_eq_true w2) hd ⟨by rw [hR.1]; exact Nat.le_of_ble_eq_true w3, by rw [hR.2]; exact Nat.le_of_ble_eq_true w4⟩ hok g1 (K _ _ R S))
    case h_2 => exact k.elim
  case invokeinterface g g9 =>
    obtain rfl := sd_len (n := 3) (by decide) hln
    simp only [pm_lk, Bool.and_eq_true] at hlk
    obtain ⟨⟨⟨w1, w2⟩, w3⟩, w4⟩ := hlk
    obtain rfl : g = 76 := Nat.eq_of_beq_eq_true w1
    simp only [pm_ex] at k; split at k
    case h_1 x i r9 =>
      cases hok : pm_rok r9 with
      | false => rw [hok] at k; exact k.elim
      | true =>
        rw [hok] at k
        obtain ⟨⟨g1, g2⟩, k2⟩ := k
        exact sd_wrP (by rfl) (by rfl) k2 (fun _ _ _ _ _ _ _ _ _ _ _ _ _ _ _ _ _ _ _ _ C R hls hR S K => sd_sch C S hls (Nat.eq_of_beq_eq_true w2) hd ⟨by rw [hR.1]; exact Nat.le_of_ble_eq_true w3, by rw [hR.2]; exact Nat.le_of_ble_eq_true w4⟩ hok g1 g2 (K _ _ R S))
    case h_2 => exact k.elim
  case ireturn =>
    obtain rfl := sd_len (n := 1) (by decide) hln
    have hr : pm_r mi = some .int := by
      simp only [pm_lk] at hlk
      split at hlk
      · assumption
      · cases hlk
    simp only [pm_ex] at k; split at k
    case h_1 x =>
      obtain ⟨-, rfl, rfl⟩ := k
      exact sd_retP (fun _ _ _ _ _ _ _ _ _ _ _ _ _ _ _ _ _ _ _ _ C S hq => W.iret C.1 C.2.1 (by rw [C.2.2.2.2.1, hr]) hq S.2.2 hd C.2.2.2.2.2.1)
    case h_2 => exact k.elim
  case freturn =>
    obtain rfl := sd_len (n := 1) (by decide) hln
    have hr : pm_r mi = some .boolean := by
      simp only [pm_lk] at hlk
      split at hlk
      · assumption
      · cases hlk
    simp only [pm_ex] at k; split at k
    case h_1 x =>
      obtain ⟨h01, rfl, rfl⟩ := k
      exact sd_retP (fun _ _ _ _ _ _ _ _ _ _ _ _ _ _ _ _ _ _ _ _ C S hq => W.zret C.1 C.2.1 (by rw [C.2.2.2.2.1, hr]) (by rcases h01 with q | q <;> rw [q] <;> decide) hq S.2.2 hd C.2.2.2.2.2.1)
    case h_2 => exact k.elim
  case lreturn =>
    obtain rfl := sd_len (n := 1) (by decide) hln
    have hr : pm_r mi = some .long := by
      simp only [pm_lk] at hlk
      split at hlk
      · assumption
      · cases hlk
    simp only [pm_ex] at k; split at k
    case h_1 x =>
      obtain ⟨-, rfl, rfl⟩ := k
      exact sd_retP (fun _ _ _ _ _ _ _ _ _ _ _ _ _ _ _ _ _ _ _ _ C S hq => W.lret C.1 C.2.1 (by rw [C.2.2.2.2.1, hr]) hq S.2.2 hd C.2.2.2.2.2.1)
    case h_2 => exact k.elim
  case return_ =>
    obtain rfl := sd_len (n := 1) (by decide) hln
    have hr : pm_r mi = none := by
      simp only [pm_lk] at hlk
      split at hlk
      · assumption
      · cases hlk
    simp only [pm_ex] at k; split at k
    case h_1 =>
      obtain ⟨-, rfl, rfl⟩ := k
      exact sd_retP (fun _ _ _ _ _ _ _ _ _ _ _ _ _ _ _ _ _ _ _ _ C S hq => W.vret C.1 C.2.1 (by rw [C.2.2.2.2.1, hr]) hq S.2.2 hd C.2.2.2.2.2.1)
    case h_2 => exact k.elim
  case areturn =>
    obtain rfl := sd_len (n := 1) (by decide) hln
    obtain ⟨rt, hr, hrt⟩ : ∃ rt, pm_r mi = some rt ∧ ((∃ n, rt = .object n) ∨ ∃ t, rt = .array t) := by
      simp only [pm_lk] at hlk
      split at hlk
      case h_1 n e9 => exact ⟨_, e9, Or.inl ⟨n, rfl⟩⟩
      case h_2 n e9 => exact ⟨_, e9, Or.inr ⟨n, rfl⟩⟩
      case h_3 => cases hlk
    simp only [pm_ex] at k; split at k
    case h_1 x =>
      obtain ⟨-, rfl, rfl⟩ := k
      exact sd_retP (fun _ _ _ _ _ _ _ _ _ _ _ _ _ _ _ _ _ _ _ _ C S hq => W.aret C.1 C.2.1 (by rw [C.2.2.2.2.1, hr]) hrt (Or.inr ⟨_, rfl⟩) hq S.2.2 hd C.2.2.2.2.2.1)
    case h_2 =>
      obtain ⟨-, rfl, rfl⟩ := k
      exact sd_retP (fun _ _ _ _ _ _ _ _ _ _ _ _ _ _ _ _ _ _ _ _ C S hq => W.aret C.1 C.2.1 (by rw [C.2.2.2.2.1, hr]) hrt (Or.inl rfl) hq S.2.2 hd C.2.2.2.2.2.1)
    case h_3 => exact k.elim
  all_goals exact sd_opQ hlk hln hd k
theorem pm_sound : pm_cld pm_P := by
  intro mi pc L st h r h' k
  unfold pm_stp at k
  cases hft : pm_ft mi pc with
  | none => rw [hft] at k; exact k.elim
  | some x =>
    obtain ⟨ins, len⟩ := x
    rw [hft] at k
    obtain ⟨hm, hp⟩ := pm_ft_lt hft
    have hc := pm_chk_all mi pc hm hp
    unfold pm_chk at hc
    rw [hft] at hc
    simp only [Bool.and_eq_true, decide_eq_true_eq, Bool.or_eq_true] at hc
    obtain ⟨⟨hd, hln⟩, hlk⟩ := hc
    exact sd_step k hm hd (hln.imp Nat.eq_of_beq_eq_true Nat.eq_of_beq_eq_true) hlk
/-- the pure machine's end is the machine's -/
theorem pm_run_P {mi pc : Nat} {L : pm_Lo} {st : List Value} {h : pm_H} {r : Option Value} {h' : pm_H} (k : pm_Run mi pc L st h r h') : pm_P mi pc L st h r h' := k pm_P pm_sound

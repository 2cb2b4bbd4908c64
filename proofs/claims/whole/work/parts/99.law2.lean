/-! the law: its loop and its start -/
section LAW2
variable {p : Program} {l : Launch} {e : Env} {s : State} {m : MethodId} {below : List Frame} {meth : Method} {c : Code} {b L : Nat} {xs : Nat → Int32} {b0 : Nat} {D : va_G} {cA : Nat → ClassId} {ad : Nat → Nat}
theorem and31 (x : Int32) : ∃ v : Nat, v < 32 ∧ x &&& nI 31 = nI v := by
  refine ⟨x.toBitVec.toNat % 32, Nat.mod_lt _ (by decide), ?_⟩
  apply Int32.toBitVec_inj.mp
  rw [Int32.toBitVec_and]
  apply BitVec.eq_of_toNat_eq
  rw [BitVec.toNat_and]
  have e1 : (nI 31).toBitVec.toNat = 2 ^ 5 - 1 := by decide
  have e2 : (nI (x.toBitVec.toNat % 32)).toBitVec.toNat = x.toBitVec.toNat % 32 := by
    have hb : x.toBitVec.toNat % 32 < 32 := Nat.mod_lt _ (by decide)
    show (BitVec.ofNat 32 (x.toBitVec.toNat % 32)).toNat = _
    rw [BitVec.toNat_ofNat, Nat.mod_eq_of_lt (by omega)]
  rw [e1, e2, Nat.and_two_pow_sub_one_eq_mod]
set_option maxHeartbeats 4000000 in
theorem law_step (hL : L ≤ 3072) (C0 : lw_At p s m meth c b L xs) (Kx : lw_K b0 D cA ad s) {t : Nat} {h : pm_H} {H : Heap} {locs : List Loc} {ls : Array Slot} (ht : t ≤ 512) (Rl : pm_Rel b0 D cA h H) (S : va_S (pm_A b0) s.heap H locs) (I : INV h) (zn' : zn h ≤ 76 + 200 * t) (zk' : zk h ≤ 100000 + 14000 * t) (hl : lv_has ls 4 (lw_lv b b0 (6 * t)))
    (K18 : 6 * t + 6 ≤ L → ∀ u, u = t + 1 → ∀ (h : pm_H) (H : Heap) (locs : List Loc) (ls : Array Slot), pm_Rel b0 D cA h H → va_S (pm_A b0) s.heap H locs → INV h → zn h ≤ 76 + 200 * u → zk h ≤ 100000 + 14000 * u → lv_has ls 4 (lw_lv b b0 (6 * u)) → W p l e room_1 s m #[Value.ref b] below meth c H locs (zn h) (zk h) (lw_Z below #[Value.ref b] s) (F0 m 18 ls [])) : W p l e room_1 s m #[Value.ref b] below meth c H locs (zn h) (zk h) (lw_Z below #[Value.ref b] s) (F0 m 18 ls []) := by
  obtain ⟨hx, hb, hr, hml, hown, hts, hX, hbl, hlocks, hgv⟩ := id C0
  have hbA : ¬ pm_A b0 b := by unfold pm_A; rw [Kx.1]; exact Nat.not_le.mpr hbl
  refine lv_iload_n hx hb d_law_18 rfl (lv_at hl 3 rfl) ?_
  refine lv_aload_n hx hb d_law_19 rfl (lv_at hl 0 rfl) ?_
  refine va_slen hx hb hX hbl hbA S d_law_20 ?_
  refine lv_bipush (v := nI 6) hx hb d_law_21 (by decide) ?_
  refine lv_isub hx hb d_law_23 ?_
  have eD : Int32.ofNat L - nI 6 = Int32.ofInt ((L : Int) - 6) := by
    show nI L - nI 6 = _
    rw [← oi_n, ← oi_n, ← Int32.ofInt_sub]; rfl
  rw [eD]
  refine lv_icmp_gt (tgt := 891) hx hb d_law_24 (by decide) (fun _ => ?_) (fun c1 => ?_)
  · refine lv_iconst (v := 1) hx hb d_law_891 (by decide) ?_
    refine va_forget (fun q hq => by have := S.2.2 q hq; unfold pm_A at this; rw [← Kx.1]; exact this) ?_
    refine W.widen (k := 600000) (n := 7302250) (by omega) (by omega) ?_
    exact lw_ret hx hb hr hlocks d_law_892
  · have hlt : 6 * t + 6 ≤ L := by
      rw [Int32.lt_iff_toInt_lt, nI_i (by omega), Int32.toInt_ofInt_of_le (by omega) (by omega)] at c1
      omega
    obtain ⟨u, hu⟩ : ∃ u, u = t + 1 := ⟨_, rfl⟩
    have K' := K18 hlt u hu
    refine lv_aload_n hx hb d_law_27 rfl (lv_at hl 0 rfl) ?_
    refine lv_iload_n hx hb d_law_28 rfl (lv_at hl 3 rfl) ?_
    refine va_sld hx hb hX hbl hbA S (vp_in_nI (by omega) (by omega)) d_law_29 ?_
    rw [nIC (by omega)]
    refine lv_bipush (v := nI 31) hx hb d_law_30 (by decide) ?_
    refine lv_iand hx hb d_law_32 ?_
    obtain ⟨v, hv, ev⟩ := and31 (xs (6 * t))
    rw [ev]
    have kk : ∀ (h2 : pm_H) (H1 : Heap) (locs1 : List Loc), pm_Rel b0 D cA h2 H1 → va_S (pm_A b0) s.heap H1 locs1 → INV h2 → zn h2 ≤ zn h + 200 → zk h2 ≤ zk h + 14000 → W p l e room_1 s m #[Value.ref b] below meth c H1 locs1 (zn h2) (zk h2) (lw_Z below #[Value.ref b] s) (F0 m 885 ls []) := fun h2 H1 locs1 R1 S1 I1 z1 zk1 => by
      refine lv_iinc (v := nI (6 * u)) (lv' := [(3, .int (nI (6 * u))), (0, .ref b), (1, .ref (b0 + 0)), (2, .ref (b0 + 35))]) hx hb d_law_885 hl (k := 3) rfl (by show nI (6 * t) + nI 6 = _; rw [nIA]; exact congrArg nI (by omega)) (by decide) rfl (fun ls' hl' => ?_)
      refine lv_goto (tgt := 18) hx hb d_law_888 (by decide) ?_
      have a1 : zn h2 ≤ 76 + 200 * u := by omega
      have a2 : zk h2 ≤ 100000 + 14000 * u := by omega
      have a3 : lv_has ls' 4 (lw_lv b b0 (6 * u)) := lv_sub hl' [1, 2, 3, 0] rfl
      exact K' h2 H1 locs1 ls' R1 S1 I1 a1 a2 a3
    have Rl' := Rl
    by_cases big : 20 < v
    · refine lv_tableOut (tgt := 885) hx hb d_law_33 (Or.inr (by rw [nI_i (by omega)]; omega)) (by decide) ?_
      exact kk h H locs Rl S I (by omega) (by omega)
    · have hv20 : v < 21 := by omega
      clear hv big ev
      match v, hv20 with
        | 0, _ => exact lv_tableIn (off := 99) (tgt := 132) hx hb d_law_33 (by decide) (by decide) rfl (by decide) (lw_c0 C0 Kx (by omega) hL Rl S I ⟨by omega, by omega⟩ hl kk)
        | 1, _ => exact lv_tableIn (off := 112) (tgt := 145) hx hb d_law_33 (by decide) (by decide) rfl (by decide) (lw_c1 C0 Kx (by omega) hL Rl S I ⟨by omega, by omega⟩ hl kk)
        | 2, _ => exact lv_tableIn (off := 175) (tgt := 208) hx hb d_law_33 (by decide) (by decide) rfl (by decide) (lw_c2 C0 Kx (by omega) hL Rl S I ⟨by omega, by omega⟩ hl kk)
        | 3, _ => exact lv_tableIn (off := 198) (tgt := 231) hx hb d_law_33 (by decide) (by decide) rfl (by decide) (lw_c3 C0 Kx (by omega) hL Rl S I ⟨by omega, by omega⟩ hl kk)
        | 4, _ => exact lv_tableIn (off := 221) (tgt := 254) hx hb d_law_33 (by decide) (by decide) rfl (by decide) (lw_c4 C0 Kx (by omega) hL Rl S I ⟨by omega, by omega⟩ hl kk)
        | 5, _ => exact lv_tableIn (off := 254) (tgt := 287) hx hb d_law_33 (by decide) (by decide) rfl (by decide) (lw_c5 C0 Kx (by omega) hL Rl S I ⟨by omega, by omega⟩ hl kk)
        | 6, _ => exact lv_tableIn (off := 287) (tgt := 320) hx hb d_law_33 (by decide) (by decide) rfl (by decide) (lw_c6 C0 Kx (by omega) hL Rl S I ⟨by omega, by omega⟩ hl kk)
        | 7, _ => exact lv_tableIn (off := 330) (tgt := 363) hx hb d_law_33 (by decide) (by decide) rfl (by decide) (lw_c7 C0 Kx (by omega) hL Rl S I ⟨by omega, by omega⟩ hl kk)
        | 8, _ => exact lv_tableIn (off := 373) (tgt := 406) hx hb d_law_33 (by decide) (by decide) rfl (by decide) (lw_c8 C0 Kx (by omega) hL Rl S I ⟨by omega, by omega⟩ hl kk)
        | 9, _ => exact lv_tableIn (off := 416) (tgt := 449) hx hb d_law_33 (by decide) (by decide) rfl (by decide) (lw_c9 C0 Kx (by omega) hL Rl S I ⟨by omega, by omega⟩ hl kk)
        | 10, _ => exact lv_tableIn (off := 459) (tgt := 492) hx hb d_law_33 (by decide) (by decide) rfl (by decide) (lw_c10 C0 Kx (by omega) hL Rl S I ⟨by omega, by omega⟩ hl kk)
        | 11, _ => exact lv_tableIn (off := 492) (tgt := 525) hx hb d_law_33 (by decide) (by decide) rfl (by decide) (lw_c11 C0 Kx (by omega) hL Rl S I ⟨by omega, by omega⟩ hl kk)
        | 12, _ => exact lv_tableIn (off := 515) (tgt := 548) hx hb d_law_33 (by decide) (by decide) rfl (by decide) (lw_c12 C0 Kx (by omega) hL Rl S I ⟨by omega, by omega⟩ hl kk)
        | 13, _ => exact lv_tableIn (off := 538) (tgt := 571) hx hb d_law_33 (by decide) (by decide) rfl (by decide) (lw_c13 C0 Kx (by omega) hL Rl S I ⟨by omega, by omega⟩ hl kk)
        | 14, _ => exact lv_tableIn (off := 571) (tgt := 604) hx hb d_law_33 (by decide) (by decide) rfl (by decide) (lw_c14 C0 Kx (by omega) hL Rl S I ⟨by omega, by omega⟩ hl kk)
        | 15, _ => exact lv_tableIn (off := 604) (tgt := 637) hx hb d_law_33 (by decide) (by decide) rfl (by decide) (lw_c15 C0 Kx (by omega) hL Rl S I ⟨by omega, by omega⟩ hl kk)
        | 16, _ => exact lv_tableIn (off := 637) (tgt := 670) hx hb d_law_33 (by decide) (by decide) rfl (by decide) (lw_c16 C0 Kx (by omega) hL Rl S I ⟨by omega, by omega⟩ hl kk)
        | 17, _ => exact lv_tableIn (off := 670) (tgt := 703) hx hb d_law_33 (by decide) (by decide) rfl (by decide) (lw_c17 C0 Kx (by omega) hL Rl S I ⟨by omega, by omega⟩ hl kk)
        | 18, _ => exact lv_tableIn (off := 703) (tgt := 736) hx hb d_law_33 (by decide) (by decide) rfl (by decide) (lw_c18 C0 Kx (by omega) hL Rl S I ⟨by omega, by omega⟩ hl kk)
        | 19, _ => exact lv_tableIn (off := 736) (tgt := 769) hx hb d_law_33 (by decide) (by decide) rfl (by decide) (lw_c19 C0 Kx (by omega) hL Rl S I ⟨by omega, by omega⟩ hl kk)
        | 20, _ => exact lv_tableIn (off := 799) (tgt := 832) hx hb d_law_33 (by decide) (by decide) rfl (by decide) (lw_c20 C0 Kx (by omega) hL Rl S I ⟨by omega, by omega⟩ hl kk)
        | n + 21, hq => exact absurd hq (by omega)
theorem law_loop (hL : L ≤ 3072) (C0 : lw_At p s m meth c b L xs) (Kx : lw_K b0 D cA ad s) :
    ∀ (n t : Nat), L < 6 * t + 6 * n → t ≤ 512 → ∀ (h : pm_H) (H : Heap) (locs : List Loc) (ls : Array Slot), pm_Rel b0 D cA h H → va_S (pm_A b0) s.heap H locs → INV h → zn h ≤ 76 + 200 * t → zk h ≤ 100000 + 14000 * t → lv_has ls 4 (lw_lv b b0 (6 * t)) → W p l e room_1 s m #[Value.ref b] below meth c H locs (zn h) (zk h) (lw_Z below #[Value.ref b] s) (F0 m 18 ls []) := by
  intro n
  induction n with
  | zero =>
    intro t h1 h2 h H locs ls Rl S I zn' zk' hl
    exact law_step hL C0 Kx h2 Rl S I zn' zk' hl (fun q => by omega)
  | succ n ih =>
    intro t h1 h2 h H locs ls Rl S I zn' zk' hl
    exact law_step hL C0 Kx h2 Rl S I zn' zk' hl (fun q u hu => ih u (by omega) (by omega))
end LAW2
theorem rel0 {b0 : Nat} {D : va_G} {cA : Nat → ClassId} {H : Heap} (h : H.size = b0) : pm_Rel b0 D cA ct0 H := ⟨h, fun a ha => absurd ha (Nat.not_lt_zero _), fun _ _ => rfl⟩
set_option maxHeartbeats 4000000 in
theorem whole_start {p : Program} {e : Env} {s : State} {m : MethodId} {below : List Frame} {meth : Method} {c : Code} (l : Launch) {b L : Nat} {xs : Nat → Int32} (hL : L ≤ 3072) (C0 : lw_At p s m meth c b L xs) : W p l e room_1 s m #[Value.ref b] below meth c s.heap [] 0 0 (lw_Z below #[Value.ref b] s) (entryFrame m ([Value.ref b] : List Value).toArray 4) := by
  obtain ⟨hx, hb, hr, hml, hown, hts, hX, hbl, hlocks, hgv⟩ := id C0
  obtain ⟨D, cA, ad, Kx⟩ := lw_setup C0
  have hl := lv_entry ([.ref b]) (n := 4) (Nat.le_of_ble_eq_true rfl)
  rw [lg_entry_eq]
  generalize (lg_sl ([.ref b]) ++ List.replicate (4 - (lg_sl ([.ref b])).length) Slot.unset).toArray = ls at hl ⊢
  have hl : lv_has ls 4 [(0, .ref b)] := hl
  have S0 : va_S (pm_A s.heap.size) s.heap s.heap [] := va_S.rf
  have nA : pm_N 12 = 13 := rfl
  have nB : pm_N 13 = 65 := rfl
  obtain ⟨rA, gA, runA, eA, eA2⟩ : ∃ r g, pm_Run 84 0 [some (.ref 0)] [] ca0 r g ∧ r = none ∧ g = ca53 := c84 (Q := fun r g => r = none ∧ g = ca53) ⟨rfl, rfl⟩
  obtain ⟨rB, gB, runB, eB, eB2⟩ : ∃ r g, pm_Run 121 0 [some (.ref 35)] [] cb0 r g ∧ r = none ∧ g = cb41 := c121 (Q := fun r g => r = none ∧ g = cb41) ⟨rfl, rfl⟩
  subst eA eA2 eB eB2
  have kA : zk ca53 ≤ 100000 := by decide +kernel
  have kB := zk0
  refine lw_new (h := ct0) (ci := 12) (idx := 7) C0 Kx (rel0 rfl) S0 (by decide) lw_cl.1 d_law_0 (by decide) (fun H1 R1 S1 => ?_)
  have R1' : pm_Rel s.heap.size D cA ca0 H1 := R1
  refine lv_dup hx hb d_law_3 rfl ?_
  refine lw_callI (h := ca0) (as := []) (rest := [.ref (s.heap.size + 0)]) (a := 0) C0 Kx R1' S1 (by decide : 84 < 180) rfl lw_l9 rfl rfl (by decide) hl.1 (Nat.le_of_ble_eq_true rfl) d_law_4 runA ⟨by rw [znA]; omega, by omega⟩ (fun H2 locs2 R2 S2 => ?_)
  refine lv_astore_n (lv' := [(1, .ref (s.heap.size + 0)), (0, .ref b)]) hx hb d_law_7 rfl hl (by decide) rfl (fun ls hl => ?_)
  refine lw_new (h := ca53) (ci := 13) (idx := 10) C0 Kx R2 S2 (by decide) lw_cl.2 d_law_8 ⟨by rw [znA]; omega, by rw [nB]; omega⟩ (fun H3 R3 S3 => ?_)
  have R3' : pm_Rel s.heap.size D cA cb0 H3 := R3
  rw [znA]
  refine lv_dup hx hb d_law_11 rfl ?_
  have e1 : zn cb0 = 35 + 1 := by decide +kernel
  have e2 : zk cb0 = zk ca53 + pm_N 13 := zk_yN _ _ _ _
  refine W.cs (cells' := zn cb0) (slots' := zk cb0) (by rw [e1]) (by rw [e2]) ?_
  refine lw_callI (h := cb0) (as := []) (rest := [.ref (s.heap.size + 35)]) (a := 35) C0 Kx R3' S3 (by decide : 121 < 180) rfl lw_l12 rfl rfl (by decide) hl.1 (Nat.le_of_ble_eq_true rfl) d_law_12 runB ⟨by rw [zn0]; omega, by omega⟩ (fun H4 locs4 R4 S4 => ?_)
  refine lv_astore_n (lv' := [(2, .ref (s.heap.size + 35)), (1, .ref (s.heap.size + 0)), (0, .ref b)]) hx hb d_law_15 rfl hl (by decide) rfl (fun ls hl => ?_)
  refine lv_iconst (v := nI 0) hx hb d_law_16 (by decide) ?_
  refine lv_istore_n (lv' := [(3, .int (nI 0)), (2, .ref (s.heap.size + 35)), (1, .ref (s.heap.size + 0)), (0, .ref b)]) hx hb d_law_17 rfl hl (by decide) rfl (fun ls hl => ?_)
  exact law_loop hL C0 Kx 513 0 (by omega) (by decide) cb41 H4 locs4 ls R4 S4 inv0 (by rw [zn0]; omega) (by omega) (lv_sub hl [3, 2, 1, 0] rfl)
set_option maxHeartbeats 4000000 in
theorem lw_walk (l : Launch) (b : Addr) (xs : List Int32) : MetFree l x (headSpec (Jvm.Cond.code x code maxLocals ret :: tables_1) room_1) (lw_P b xs) (fun _ _ _ _ _ => True) lw_Q := by
  refine MetFree.of_bodyS (code := code) (maxLocals := maxLocals) (ret := ret) (by decide) ?_ ?_
  · intro args s m h hn
    obtain ⟨meth, c, h1, h2, h3, h4, h5, h6, -, -⟩ := Cond.code_spec hn (atoms_spec (ws := Jvm.Cond.code x code maxLocals ret :: tables_1) h _ List.mem_cons_self)
    exact ⟨meth, c, h1, h2, h3, h4, h5, h6⟩
  · intro p e s m args below meth c s₁ B hml0 hP _
    obtain ⟨rfl, hx, hbd, hgv⟩ := hP
    obtain ⟨scr, harrAt, hlist, hof, hsmall⟩ := hx
    obtain ⟨hcb, hkn, -, -⟩ := State.arrayAt?_spec harrAt
    have hown : s.vm.findClass R_law = some m.cls := findClass_of_methodNamed B.named
    have hts0 : ∀ c ∈ (Jvm.Cond.code x code maxLocals ret :: tables_1), c.before #[Value.ref b] s = true := atoms_spec (ws := Jvm.Cond.code x code maxLocals ret :: tables_1) B.pre
    have hts : ∀ w ∈ lw_tbl, w.before #[Value.ref b] s = true := k2_hts_sels lw_privs (fun w hw => hts0 w (List.mem_cons_of_mem _ hw)) lw_privs_ok
    have hml : c.maxLocals = 4 := B.maxLocals_eq (hts0 _ List.mem_cons_self)
    have X₀ : Stand p l e room_1 s m #[Value.ref b] below meth c s₁ [] 0 0 := Stand.of_body B
    have hh0 : s₁.heap = s.heap := by rw [B.state]; rfl
    have hsz : scr.slots.size = xs.length := by rw [← Array.length_toList, hlist, List.length_map]
    have hval : ∀ j : Nat, j < xs.length → scr.slots[j]? = some (.int (xs.getD j 0)) := fun j hj => by
      rw [← Array.getElem?_toList, hlist]
      simp [hj]
    have hbl : b < s.heap.size := (Array.getElem?_eq_some_iff.mp hcb).1
    have hX : va_X b xs.length (fun j => xs.getD j 0) s s.heap := ⟨scr, hcb, hof, hkn, hsz, hval⟩
    have K : W p l e room_1 s m #[Value.ref b] below meth c s₁.heap [] 0 0 (lw_Z below #[Value.ref b] s) (entryFrame m ([Value.ref b] : List Value).toArray 4) := by
      rw [hh0]
      exact whole_start l hbd ⟨B.exec, B.bytes, B.returns, hml, hown, hts, hX, hbl, B.notSynchronized, hgv⟩
    obtain ⟨t, a1, o, b1, b2, b3⟩ := K s₁ rfl X₀
    exact ⟨t, o, a1, b1, b2, b3⟩
theorem lw_pre_spec {args : Array Value} {s : State} (h : (Jvm.Cond.and given_1 narrow_1).before args s = true) (hr : rest_1_c.before args s = true) : ∃ (b : Addr) (xs : List Int32), lw_P b xs args s := by
  have hs := flat_of_before _ h
  have hq := flat_of_before _ hr
  have hc : (Cond.count 1).before args s = true := hs _ (by decide +kernel)
  have harr : (Cond.arrayOf (.arg 0) .int).before args s = true := hs _ (by decide +kernel)
  have hle : (Cond.le (.length (.arg 0)) (.int 3072)).before args s = true := hs _ (by decide +kernel)
  have hlen : (Cond.isInt (.length (.arg 0))).before args s = true := hq _ (by decide +kernel)
  have hall : (Cond.all (.arg 0) (.isInt (.elem (.arg 0) (.index 0)))).before args s = true := hq _ (by decide +kernel)
  obtain ⟨b, xs, hb, hx⟩ := State.ints_of_pre rfl harr hlen hall
  have hsm : xs.length < 2 ^ 31 := hx.choose_spec.2.2.2
  have hev : (Term.length (.arg 0)).eval args s none [] s = some (.int xs.length.toInt32) := hx.length_eval hb
  have hv := Cond.le_ints hev (show (Term.int 3072).eval args s none [] s = some (.int 3072) from rfl)
  have hd : xs.length.toInt32 ≤ 3072 := by
    simpa [Cond.before, Cond.holds, hv] using hle
  have hN : xs.length ≤ 3072 := (Int32.ofNat_le_ofNat hsm (by decide)).mp (show Int32.ofNat xs.length ≤ Int32.ofNat 3072 from hd)
  exact ⟨b, xs, Cond.one_arg hc (show args[0]? = some (.ref b) from hb), hx, hN, h⟩
theorem lw_comes (l : Launch) : Comes l x (Jvm.Cond.code x code maxLocals ret :: tables_1) room_1 (fun tb e args s => Calls_1 tb e args s ∧ rest_1 tb e args s ∧ Pre_1 tb e args s)
    (fun _ _ args s o t => lw_Q args s o t) := by
  intro p e ha hc hk s m args below hf hfit hheap happ hpre
  obtain ⟨b, xs, hP⟩ := lw_pre_spec hpre.2.2 hpre.2.1
  obtain ⟨k, o, h1, h2, h3, hQ⟩ := lw_walk l b xs p e ha hc hk s m args below hf ((Spec.applies_iff_loose hf).mp happ).1 hP trivial
  exact ⟨k, o, h1, h2, h3, hQ⟩
theorem lw_frame {s t : State} {o : Outcome} {args : Array Value} (h : Framed s o t [] 600000 7302250) :
    Framed s o t (fieldLocs frame_1_writes args s ++ arrayLocs frame_1_arrays args s ++ staticLocs frame_1_statics s) 600000 7302250 := h
theorem lw_limb (L : Cond) (hL : ∀ (args : Array Value) (s t : State), L.after args s (.returned (some (.int 1))) t = true) :
    ArmFor flags0 classFile x code maxLocals ret World_1 tables_1 room_1 Calls_1 rest_1 Pre_1
      (fun tb e a s o t => postC L tb e a s o t ∧ Framed s o t (fieldLocs frame_1_writes a s ++ arrayLocs frame_1_arrays a s ++ staticLocs frame_1_statics s) 600000 7302250) := by
  intro l _ _ _ p e ha hc hk s m args below hf hfit hheap happ hpre
  obtain ⟨k, o, h1, h2, h3, rfl, hF⟩ := lw_comes l p e ha hc hk s m args below hf hfit hheap happ hpre
  exact ⟨k, _, h1, h2, h3, hL args s _, lw_frame hF⟩
theorem i_vc : Claimed_1_1 ∧ Claimed_1_2 := ⟨lw_limb limb_1_1 (fun args s t => by simp [limb_1_1, Cond.after, Cond.holds, Cond.value]), lw_limb limb_1_2 (fun args s t => Cond.after_iff.mpr (by
  first | (rw [show limb_1_2 = Cond.eq .result (.int 1) from rfl, Cond.eq_ints (x := 1) (y := 1) rfl rfl]; simp; done) | (simp [limb_1_2, Cond.value, Term.eval]; done)))⟩

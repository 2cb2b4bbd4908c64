/-! String.length and String.charAt of the String constants: the JDK's own methods, walked -/
theorem js_c_length : Cond.code yJ0_length_8abf5 cJ0_length_8abf5 1 (some .int) ∈ lw_tbl := pm_tb2 (i := 89) rfl
theorem js_c_charAt : Cond.code yJ0_charAt_5068e cJ0_charAt_5068e 2 (some .char) ∈ lw_tbl := pm_tb2 (i := 99) rfl
theorem js_c_coder : Cond.code yJ0_coder_7d493 cJ0_coder_7d493 1 (some .byte) ∈ lw_tbl := pm_tb2 (i := 93) rfl
theorem js_c_isLatin1 : Cond.code yJ0_isLatin1_aae02 cJ0_isLatin1_aae02 1 (some .boolean) ∈ lw_tbl := pm_tb2 (i := 103) rfl
theorem js_c_checkIndex : Cond.code yJ0_checkIndex_df160 cJ0_checkIndex_df160 2 none ∈ lw_tbl := pm_tb2 (i := 109) rfl
theorem js_c_lcharAt : Cond.code yJ1_charAt_3b067 cJ1_charAt_3b067 2 (some .char) ∈ lw_tbl := pm_tb2 (i := 106) rfl
theorem js_c_pcheck : Cond.code yJ3_checkIndex_8e157 cJ3_checkIndex_8e157 3 (some .int) ∈ lw_tbl := pm_tb2 (i := 114) rfl
theorem js_i_RJ0 : Cond.initialized RJ0 ∈ lw_tbl := pm_tb1 (i := 13) rfl
theorem js_i_RJ1 : Cond.initialized RJ1 ∈ lw_tbl := pm_tb1 (i := 14) rfl
theorem js_i_RJ3 : Cond.initialized RJ3 ∈ lw_tbl := pm_tb1 (i := 15) rfl
theorem js_m_length_RX10 : Cond.methodLink RX10 45 yJ0_length_8abf5 ∈ lw_tbl := pm_tb2 (i := 86) rfl
theorem js_m_charAt_RX10 : Cond.methodLink RX10 51 yJ0_charAt_5068e ∈ lw_tbl := pm_tb2 (i := 96) rfl
theorem js_m_coder_RJ0 : Cond.methodLink RJ0 335 yJ0_coder_7d493 ∈ lw_tbl := pm_tb2 (i := 90) rfl
theorem js_m_isLatin1_RJ0 : Cond.methodLink RJ0 492 yJ0_isLatin1_aae02 ∈ lw_tbl := pm_tb2 (i := 100) rfl
theorem js_m_lcharAt_RJ0 : Cond.methodLink RJ0 495 yJ1_charAt_3b067 ∈ lw_tbl := pm_tb2 (i := 104) rfl
theorem js_m_checkIndex_RJ1 : Cond.methodLink RJ1 9 yJ0_checkIndex_df160 ∈ lw_tbl := pm_tb2 (i := 107) rfl
theorem js_m_pcheck_RJ0 : Cond.methodLink RJ0 1059 yJ3_checkIndex_8e157 ∈ lw_tbl := pm_tb2 (i := 112) rfl
theorem js_n_length : Cond.instanceMethod yJ0_length_8abf5 ∈ lw_tbl := pm_tb2 (i := 87) rfl
theorem js_s_length : Cond.selects RJ0 yJ0_length_8abf5 yJ0_length_8abf5 ∈ lw_tbl := pm_tb2 (i := 88) rfl
theorem js_n_charAt : Cond.instanceMethod yJ0_charAt_5068e ∈ lw_tbl := pm_tb2 (i := 97) rfl
theorem js_s_charAt : Cond.selects RJ0 yJ0_charAt_5068e yJ0_charAt_5068e ∈ lw_tbl := pm_tb2 (i := 98) rfl
theorem js_n_coder : Cond.instanceMethod yJ0_coder_7d493 ∈ lw_tbl := pm_tb2 (i := 91) rfl
theorem js_s_coder : Cond.selects RJ0 yJ0_coder_7d493 yJ0_coder_7d493 ∈ lw_tbl := pm_tb2 (i := 92) rfl
theorem js_n_isLatin1 : Cond.instanceMethod yJ0_isLatin1_aae02 ∈ lw_tbl := pm_tb2 (i := 101) rfl
theorem js_s_isLatin1 : Cond.selects RJ0 yJ0_isLatin1_aae02 yJ0_isLatin1_aae02 ∈ lw_tbl := pm_tb2 (i := 102) rfl
theorem js_t_lcharAt : Cond.static yJ1_charAt_3b067 ∈ lw_tbl := pm_tb2 (i := 105) rfl
theorem js_t_checkIndex : Cond.static yJ0_checkIndex_df160 ∈ lw_tbl := pm_tb2 (i := 108) rfl
theorem js_t_pcheck : Cond.static yJ3_checkIndex_8e157 ∈ lw_tbl := pm_tb2 (i := 113) rfl
theorem js_f9 : Cond.fieldLink RJ0 9 "java/lang/String" "value" "[B" ∈ lw_tbl := pm_tb6 (i := 95) rfl
theorem js_f15 : Cond.fieldLink RJ0 15 "java/lang/String" "coder" "B" ∈ lw_tbl := pm_tb6 (i := 96) rfl
theorem js_f38 : Cond.fieldLink RJ0 38 "java/lang/String" "COMPACT_STRINGS" "Z" ∈ lw_tbl := pm_tb2 (i := 94) rfl
theorem js_f1053 : Cond.fieldLink RJ0 1053 "jdk/internal/util/Preconditions" "SIOOBE_FORMATTER" "Ljava/util/function/BiFunction;" ∈ lw_tbl := pm_tb2 (i := 110) rfl
theorem js_d_length_0 : decode cJ0_length_8abf5 0 = .ok (.aload_n 0, 1) := by decide +kernel
theorem js_d_length_1 : decode cJ0_length_8abf5 1 = .ok (.getfield 9, 3) := by decide +kernel
theorem js_d_length_4 : decode cJ0_length_8abf5 4 = .ok (.arraylength, 1) := by decide +kernel
theorem js_d_length_5 : decode cJ0_length_8abf5 5 = .ok (.aload_n 0, 1) := by decide +kernel
theorem js_d_length_6 : decode cJ0_length_8abf5 6 = .ok (.invokevirtual 335, 3) := by decide +kernel
theorem js_d_length_9 : decode cJ0_length_8abf5 9 = .ok (.ishr, 1) := by decide +kernel
theorem js_d_length_10 : decode cJ0_length_8abf5 10 = .ok (.ireturn, 1) := by decide +kernel
theorem js_d_charAt_0 : decode cJ0_charAt_5068e 0 = .ok (.aload_n 0, 1) := by decide +kernel
theorem js_d_charAt_1 : decode cJ0_charAt_5068e 1 = .ok (.invokevirtual 492, 3) := by decide +kernel
theorem js_d_charAt_4 : decode cJ0_charAt_5068e 4 = .ok (.ifCond .eq 12, 3) := by decide +kernel
theorem js_d_charAt_7 : decode cJ0_charAt_5068e 7 = .ok (.aload_n 0, 1) := by decide +kernel
theorem js_d_charAt_8 : decode cJ0_charAt_5068e 8 = .ok (.getfield 9, 3) := by decide +kernel
theorem js_d_charAt_11 : decode cJ0_charAt_5068e 11 = .ok (.iload_n 1, 1) := by decide +kernel
theorem js_d_charAt_12 : decode cJ0_charAt_5068e 12 = .ok (.invokestatic 495, 3) := by decide +kernel
theorem js_d_charAt_15 : decode cJ0_charAt_5068e 15 = .ok (.ireturn, 1) := by decide +kernel
theorem js_d_charAt_16 : decode cJ0_charAt_5068e 16 = .ok (.aload_n 0, 1) := by decide +kernel
theorem js_d_charAt_17 : decode cJ0_charAt_5068e 17 = .ok (.getfield 9, 3) := by decide +kernel
theorem js_d_charAt_20 : decode cJ0_charAt_5068e 20 = .ok (.iload_n 1, 1) := by decide +kernel
theorem js_d_charAt_21 : decode cJ0_charAt_5068e 21 = .ok (.invokestatic 498, 3) := by decide +kernel
theorem js_d_charAt_24 : decode cJ0_charAt_5068e 24 = .ok (.ireturn, 1) := by decide +kernel
theorem js_d_coder_0 : decode cJ0_coder_7d493 0 = .ok (.getstatic 38, 3) := by decide +kernel
theorem js_d_coder_3 : decode cJ0_coder_7d493 3 = .ok (.ifCond .eq 10, 3) := by decide +kernel
theorem js_d_coder_6 : decode cJ0_coder_7d493 6 = .ok (.aload_n 0, 1) := by decide +kernel
theorem js_d_coder_7 : decode cJ0_coder_7d493 7 = .ok (.getfield 15, 3) := by decide +kernel
theorem js_d_coder_10 : decode cJ0_coder_7d493 10 = .ok (.goto 4, 3) := by decide +kernel
theorem js_d_coder_13 : decode cJ0_coder_7d493 13 = .ok (.iconst 1, 1) := by decide +kernel
theorem js_d_coder_14 : decode cJ0_coder_7d493 14 = .ok (.ireturn, 1) := by decide +kernel
theorem js_d_isLatin1_0 : decode cJ0_isLatin1_aae02 0 = .ok (.getstatic 38, 3) := by decide +kernel
theorem js_d_isLatin1_3 : decode cJ0_isLatin1_aae02 3 = .ok (.ifCond .eq 14, 3) := by decide +kernel
theorem js_d_isLatin1_6 : decode cJ0_isLatin1_aae02 6 = .ok (.aload_n 0, 1) := by decide +kernel
theorem js_d_isLatin1_7 : decode cJ0_isLatin1_aae02 7 = .ok (.getfield 15, 3) := by decide +kernel
theorem js_d_isLatin1_10 : decode cJ0_isLatin1_aae02 10 = .ok (.ifCond .ne 7, 3) := by decide +kernel
theorem js_d_isLatin1_13 : decode cJ0_isLatin1_aae02 13 = .ok (.iconst 1, 1) := by decide +kernel
theorem js_d_isLatin1_14 : decode cJ0_isLatin1_aae02 14 = .ok (.goto 4, 3) := by decide +kernel
theorem js_d_isLatin1_17 : decode cJ0_isLatin1_aae02 17 = .ok (.iconst 0, 1) := by decide +kernel
theorem js_d_isLatin1_18 : decode cJ0_isLatin1_aae02 18 = .ok (.ireturn, 1) := by decide +kernel
theorem js_d_checkIndex_0 : decode cJ0_checkIndex_df160 0 = .ok (.iload_n 0, 1) := by decide +kernel
theorem js_d_checkIndex_1 : decode cJ0_checkIndex_df160 1 = .ok (.iload_n 1, 1) := by decide +kernel
theorem js_d_checkIndex_2 : decode cJ0_checkIndex_df160 2 = .ok (.getstatic 1053, 3) := by decide +kernel
theorem js_d_checkIndex_5 : decode cJ0_checkIndex_df160 5 = .ok (.invokestatic 1059, 3) := by decide +kernel
theorem js_d_checkIndex_8 : decode cJ0_checkIndex_df160 8 = .ok (.pop, 1) := by decide +kernel
theorem js_d_checkIndex_9 : decode cJ0_checkIndex_df160 9 = .ok (.return_, 1) := by decide +kernel
theorem js_d_lcharAt_0 : decode cJ1_charAt_3b067 0 = .ok (.iload_n 1, 1) := by decide +kernel
theorem js_d_lcharAt_1 : decode cJ1_charAt_3b067 1 = .ok (.aload_n 0, 1) := by decide +kernel
theorem js_d_lcharAt_2 : decode cJ1_charAt_3b067 2 = .ok (.arraylength, 1) := by decide +kernel
theorem js_d_lcharAt_3 : decode cJ1_charAt_3b067 3 = .ok (.invokestatic 9, 3) := by decide +kernel
theorem js_d_lcharAt_6 : decode cJ1_charAt_3b067 6 = .ok (.aload_n 0, 1) := by decide +kernel
theorem js_d_lcharAt_7 : decode cJ1_charAt_3b067 7 = .ok (.iload_n 1, 1) := by decide +kernel
theorem js_d_lcharAt_8 : decode cJ1_charAt_3b067 8 = .ok (.baload, 1) := by decide +kernel
theorem js_d_lcharAt_9 : decode cJ1_charAt_3b067 9 = .ok (.sipush 255, 3) := by decide +kernel
theorem js_d_lcharAt_12 : decode cJ1_charAt_3b067 12 = .ok (.iand, 1) := by decide +kernel
theorem js_d_lcharAt_13 : decode cJ1_charAt_3b067 13 = .ok (.i2c, 1) := by decide +kernel
theorem js_d_lcharAt_14 : decode cJ1_charAt_3b067 14 = .ok (.ireturn, 1) := by decide +kernel
theorem js_d_pcheck_0 : decode cJ3_checkIndex_8e157 0 = .ok (.iload_n 0, 1) := by decide +kernel
theorem js_d_pcheck_1 : decode cJ3_checkIndex_8e157 1 = .ok (.ifCond .lt 8, 3) := by decide +kernel
theorem js_d_pcheck_4 : decode cJ3_checkIndex_8e157 4 = .ok (.iload_n 0, 1) := by decide +kernel
theorem js_d_pcheck_5 : decode cJ3_checkIndex_8e157 5 = .ok (.iload_n 1, 1) := by decide +kernel
theorem js_d_pcheck_6 : decode cJ3_checkIndex_8e157 6 = .ok (.if_icmp .lt 10, 3) := by decide +kernel
theorem js_d_pcheck_9 : decode cJ3_checkIndex_8e157 9 = .ok (.aload_n 2, 1) := by decide +kernel
theorem js_d_pcheck_10 : decode cJ3_checkIndex_8e157 10 = .ok (.iload_n 0, 1) := by decide +kernel
theorem js_d_pcheck_11 : decode cJ3_checkIndex_8e157 11 = .ok (.iload_n 1, 1) := by decide +kernel
theorem js_d_pcheck_12 : decode cJ3_checkIndex_8e157 12 = .ok (.invokestatic 95, 3) := by decide +kernel
theorem js_d_pcheck_15 : decode cJ3_checkIndex_8e157 15 = .ok (.athrow, 1) := by decide +kernel
theorem js_d_pcheck_16 : decode cJ3_checkIndex_8e157 16 = .ok (.iload_n 0, 1) := by decide +kernel
theorem js_d_pcheck_17 : decode cJ3_checkIndex_8e157 17 = .ok (.ireturn, 1) := by decide +kernel
def jw (y : MethodName) (cc : ByteArray) (n : Nat) (r : Option FieldType) : List Cond := Cond.code y cc n r :: lw_good
theorem jw_good {y : MethodName} {cc : ByteArray} {n : Nat} {r : Option FieldType} (h : Cond.code y cc n r ∈ lw_tbl) : GoodIn lw_good (jw y cc n r) := by
  intro w hw
  rcases List.mem_cons.mp hw with rfl | q
  · exact ⟨lw_good_in h rfl, good_of_word (w := Cond.code y cc n r) rfl⟩
  · exact ⟨q, good_of_word (List.mem_filter.mp q).2⟩
def jPc (ad : Nat → Nat) (b0 : Nat) (as : List Value) : Array Value → State → Prop := va_Pc as (fun U => pm_Sx ad b0 U ∧ b0 ≤ U.heap.size)
def jQ (r : Option Value) : Array Value → State → Outcome → State → Prop := fun _ st o t => o = .returned r ∧ t.heap = st.heap
theorem jPc_blind (ad : Nat → Nat) (b0 : Nat) (as : List Value) : FrameBlind (jPc ad b0 as) := by
  intro a U g mk q
  obtain ⟨q0, q1, q2⟩ := q
  exact ⟨q0, q1.same rfl rfl, q2⟩
def jrm (f n : Nat) : Room := { frames := f, cells := 0, slots := 0, locals := n }
section JS
variable {b0 : Nat} {ad : Nat → Nat} {p : Program} {l : Launch} {e : Env} {R : Room} {s : State} {m : MethodId} {args : Array Value} {below : List Frame} {meth : Method} {c : Code} {H : Heap} {locs : List Loc} {cells slots : Nat} {Q : State → Prop} {pc : Nat} {ls : Array Slot} {rest : List Value}
theorem js_cont {st0 : List Value} {a : Array Value} {r : Option Value} (hr : va_Run p l e R s m args below meth c H locs cells slots 0 0 (F0 m pc ls st0) rest (jQ r a) (pm_A b0)) (hS : va_S (pm_A b0) s.heap H locs)
    (kk : ∀ locs1 : List Loc, va_S (pm_A b0) s.heap H locs1 → W p l e R s m args below meth c H locs1 cells slots Q (F0 m (pc + 3) ls (r.toList ++ rest))) : W p l e R s m args below meth c H locs cells slots Q (F0 m pc ls st0) := by
  intro T hT X
  obtain ⟨v, st₀, t, T', L, h0, X', hL, e1, e2, ⟨hv, hh⟩, st⟩ := hr T hT X
  cases hv
  obtain ⟨t2, a1, b1⟩ := kk (locs ++ L) ⟨hS.1, hS.2.1, fun q hq => by
      rcases List.mem_append.mp hq with h | h
      · exact hS.2.2 q h
      · exact hL q h⟩ T' (by rw [e1, hh, h0]) X'
  exact ⟨t2, st t2 a1, b1⟩
theorem js_pre (hX : pm_Sx ad b0 s) (hb0 : b0 ≤ s.heap.size) (hS : va_S (pm_A b0) s.heap H locs) (as : List Value) : ∀ U : State, U.heap = H → s.WarmedH U.vm → jPc ad b0 as as.toArray U := by
  intro U hU hW
  exact ⟨rfl, hX.moved hW (fun a h1 h2 => by rw [hU]; exact hS.2.1 a h1 h2), by rw [hU]; exact Nat.le_trans hb0 hS.1⟩
theorem js_recv (hX : pm_Sx ad b0 s) (hS : va_S (pm_A b0) s.heap H locs) {i : Nat} (hi : i < 3) : ∃ cell : Cell, H[ad i]? = some cell ∧ cell.vm.isStatics = false ∧ s.vm.findClass RJ0 = some cell.cls := by
  obtain ⟨adV, hE⟩ := hX.1
  exact vk_recv hE hi hS
theorem js_cb {own : String} {y : MethodName} {cc : ByteArray} {n idx na f nl : Nat} {r : Option FieldType} (hts : ∀ w ∈ lw_good, w.before args s = true) (hc : Cond.code y cc n r ∈ lw_tbl) (hi : Cond.initialized y.cls ∈ lw_tbl) (hm : Cond.methodLink own idx y ∈ lw_tbl) (hn : y.cls ≠ "java/lang/invoke/MethodHandle" ∧ y.cls ≠ "java/lang/invoke/VarHandle" ∧ (parseMethodDescriptor y.desc).map (fun d => d.parameters.length) = some na) (hR : f + 1 ≤ R.frames ∧ 8 + (n + 11) + nl ≤ R.locals) : CallB R s args own idx y cc n r (jw y cc n r) (jrm f nl) 0 0 na :=
  callB_of _ hts (jw_good hc) rfl rfl rfl (hts _ (lw_good_in hi rfl)) (hts _ (lw_good_in hm rfl)) hn hR
theorem js_V {own : String} {y : MethodName} {cc c0 : ByteArray} {n idx nL f nl i : Nat} {r : Option FieldType} {rv : Option Value} {as : List Value} (hX : pm_Sx ad b0 s) (hb0 : b0 ≤ s.heap.size) (hS : va_S (pm_A b0) s.heap H locs) (hi : i < 3) (F : CallFix p m c c0 nL s args lw_good own) (M : Met l y (jw y cc n r) (jrm f nl) (jPc ad b0 (.ref (ad i) :: as)) (jQ rv) 0 0 (pm_A b0)) (cb : CallB R s args own idx y cc n r (jw y cc n r) (jrm f nl) 0 0 as.length) (hn : Cond.instanceMethod y ∈ lw_tbl) (hs : Cond.selects RJ0 y y ∈ lw_tbl) (hls : ls.size = nL) (hrest : (rest.map fun v => v.category).sum ≤ 8) (hd : decode c0 pc = .ok (.invokevirtual idx, 3)) (hcs : cells + 0 ≤ R.cells ∧ slots + 0 ≤ R.slots)
    (kk : ∀ locs1 : List Loc, va_S (pm_A b0) s.heap H locs1 → W p l e R s m args below meth c H locs1 cells slots Q (F0 m (pc + 3) ls (rv.toList ++ rest))) : W p l e R s m args below meth c H locs cells slots Q (F0 m pc ls (as.reverse ++ .ref (ad i) :: rest)) :=
  js_cont (va_runV (C := RJ0) (b := ad i) (As := as) F M ⟨cb, F.2.2.2.2 _ (lw_good_in hn rfl), F.2.2.2.2 _ (lw_good_in hs rfl)⟩ ⟨jPc_blind ad b0 _, js_recv hX hS hi, js_pre hX hb0 hS (.ref (ad i) :: as)⟩ rfl rfl hls rfl (lv_room hrest) hd hcs) hS kk
theorem js_S {own : String} {y : MethodName} {cc c0 : ByteArray} {n idx nL f nl : Nat} {r : Option FieldType} {rv : Option Value} {as : List Value} (hX : pm_Sx ad b0 s) (hb0 : b0 ≤ s.heap.size) (hS : va_S (pm_A b0) s.heap H locs) (F : CallFix p m c c0 nL s args lw_good own) (M : Met l y (jw y cc n r) (jrm f nl) (jPc ad b0 as) (jQ rv) 0 0 (pm_A b0)) (cb : CallB R s args own idx y cc n r (jw y cc n r) (jrm f nl) 0 0 as.length) (ht : Cond.static y ∈ lw_tbl) (hls : ls.size = nL) (hrest : (rest.map fun v => v.category).sum ≤ 8) (hd : decode c0 pc = .ok (.invokestatic idx, 3)) (hcs : cells + 0 ≤ R.cells ∧ slots + 0 ≤ R.slots)
    (kk : ∀ locs1 : List Loc, va_S (pm_A b0) s.heap H locs1 → W p l e R s m args below meth c H locs1 cells slots Q (F0 m (pc + 3) ls (rv.toList ++ rest))) : W p l e R s m args below meth c H locs cells slots Q (F0 m pc ls (as.reverse ++ rest)) :=
  js_cont (va_runS (As := as) F M ⟨cb, F.2.2.2.2 _ (lw_good_in ht rfl)⟩ ⟨jPc_blind ad b0 _, js_pre hX hb0 hS as⟩ rfl rfl hls rfl (lv_room hrest) hd hcs) hS kk
end JS
/-- the beginning of each method's walk -/
theorem js_met {l : Launch} {y : MethodName} {cc : ByteArray} {n f nl : Nat} {ret : Option FieldType} {B : State → Prop} {b0 : Nat} {as : List Value} {rv : Option Value} (hy : plainName y.cls = true) (hlen : (lg_sl as).length ≤ n)
    (body : ∀ (p : Program) (e : Env) (s : State) (m : MethodId) (below : List Frame) (meth : Method) (c : Code) (ls : Array Slot), CallFix p m c cc n s as.toArray lw_good y.cls → meth.sig.returnType = ret → meth.locks = false → B s → lv_has ls n (lv_args 0 as) → W p l e (jrm f nl) s m as.toArray below meth c s.heap [] 0 0 (MQ below (jQ rv) as.toArray s 0 0 (pm_A b0)) (F0 m 0 ls [])) : Met l y (jw y cc n ret) (jrm f nl) (va_Pc as B) (jQ rv) 0 0 (pm_A b0) := by
  refine Met.ofW (cc := cc) (maxL := n) (ret := ret) hy rfl ?_
  intro p e s m args below meth c s₁ Bd hml hv
  obtain ⟨rfl, hB⟩ := hv
  have hts := atoms_spec (ws := jw y cc n ret) Bd.pre
  have hown : s.vm.findClass y.cls = some m.cls := findClass_of_methodNamed Bd.named
  have hl := lv_entry as hlen
  rw [lg_entry_eq]
  generalize (lg_sl as ++ List.replicate (n - (lg_sl as).length) Slot.unset).toArray = ls at hl ⊢
  exact body p e s m below meth c ls ⟨Bd.exec, Bd.bytes, hml, hown, fun w hw => hts w (List.mem_cons_of_mem _ hw)⟩ Bd.returns Bd.notSynchronized hB hl
theorem js_hn_pcheck : yJ3_checkIndex_8e157.cls ≠ "java/lang/invoke/MethodHandle" ∧ yJ3_checkIndex_8e157.cls ≠ "java/lang/invoke/VarHandle" ∧ (parseMethodDescriptor yJ3_checkIndex_8e157.desc).map (fun d => d.parameters.length) = some 3 := ⟨by decide, by decide, by decide +kernel⟩
theorem js_hn_checkIndex : yJ0_checkIndex_df160.cls ≠ "java/lang/invoke/MethodHandle" ∧ yJ0_checkIndex_df160.cls ≠ "java/lang/invoke/VarHandle" ∧ (parseMethodDescriptor yJ0_checkIndex_df160.desc).map (fun d => d.parameters.length) = some 2 := ⟨by decide, by decide, by decide +kernel⟩
theorem js_hn_lcharAt : yJ1_charAt_3b067.cls ≠ "java/lang/invoke/MethodHandle" ∧ yJ1_charAt_3b067.cls ≠ "java/lang/invoke/VarHandle" ∧ (parseMethodDescriptor yJ1_charAt_3b067.desc).map (fun d => d.parameters.length) = some 2 := ⟨by decide, by decide, by decide +kernel⟩
theorem js_hn_charAt : yJ0_charAt_5068e.cls ≠ "java/lang/invoke/MethodHandle" ∧ yJ0_charAt_5068e.cls ≠ "java/lang/invoke/VarHandle" ∧ (parseMethodDescriptor yJ0_charAt_5068e.desc).map (fun d => d.parameters.length) = some 1 := ⟨by decide, by decide, by decide +kernel⟩
section JM
variable {l : Launch} {ad : Nat → Nat} {b0 : Nat}
theorem js_nil {locs : List Loc} {s : State} {H : Heap} (hS : va_S (pm_A b0) s.heap H locs) : ∀ q ∈ locs, pm_A b0 q.base := hS.2.2
theorem js_coder {i : Nat} (hi : i < 3) : Met l yJ0_coder_7d493 (jw yJ0_coder_7d493 cJ0_coder_7d493 1 (some .byte)) (jrm 1 0) (jPc ad b0 [.ref (ad i)]) (jQ (some (.int 0))) 0 0 (pm_A b0) := by
  refine js_met (by decide +kernel) (Nat.le_of_ble_eq_true rfl) (fun p e s m below meth c ls F hr hlocks hB hl => ?_)
  obtain ⟨hx, hb, hml, hown, hts⟩ := F
  obtain ⟨⟨⟨adV, hE⟩, -, hZ, -⟩, hb0⟩ := hB
  have hS : va_S (pm_A b0) s.heap s.heap [] := va_S.rf
  have hl : lv_has ls 1 [(0, .ref (ad i))] := hl
  refine va_gets hx hb hZ hS hown (hts _ (lw_good_in js_f38 rfl)) (fun x h => h) js_d_coder_0 ?_
  refine lv_if_eq (tgt := 13) hx hb js_d_coder_3 (by decide) (fun q => absurd q (by decide)) (fun _ => ?_)
  refine lv_aload_n hx hb js_d_coder_6 rfl (lv_at hl 0 rfl) ?_
  refine vk_getf hx hb (hE.1 i hi).2.1 hS hown (hts _ (lw_good_in js_f15 rfl)) (fun x h => h) js_d_coder_7 ?_
  refine lv_goto (tgt := 14) hx hb js_d_coder_10 (by decide) ?_
  exact W.zret (ty := .byte) hx hb hr (by decide +kernel) (fun t ht _ => ⟨rfl, ht⟩) (js_nil hS) js_d_coder_14
theorem js_lat {i : Nat} (hi : i < 3) : Met l yJ0_isLatin1_aae02 (jw yJ0_isLatin1_aae02 cJ0_isLatin1_aae02 1 (some .boolean)) (jrm 1 0) (jPc ad b0 [.ref (ad i)]) (jQ (some (.int 1))) 0 0 (pm_A b0) := by
  refine js_met (by decide +kernel) (Nat.le_of_ble_eq_true rfl) (fun p e s m below meth c ls F hr hlocks hB hl => ?_)
  obtain ⟨hx, hb, hml, hown, hts⟩ := F
  obtain ⟨⟨⟨adV, hE⟩, -, hZ, -⟩, hb0⟩ := hB
  have hS : va_S (pm_A b0) s.heap s.heap [] := va_S.rf
  have hl : lv_has ls 1 [(0, .ref (ad i))] := hl
  refine va_gets hx hb hZ hS hown (hts _ (lw_good_in js_f38 rfl)) (fun x h => h) js_d_isLatin1_0 ?_
  refine lv_if_eq (tgt := 17) hx hb js_d_isLatin1_3 (by decide) (fun q => absurd q (by decide)) (fun _ => ?_)
  refine lv_aload_n hx hb js_d_isLatin1_6 rfl (lv_at hl 0 rfl) ?_
  refine vk_getf hx hb (hE.1 i hi).2.1 hS hown (hts _ (lw_good_in js_f15 rfl)) (fun x h => h) js_d_isLatin1_7 ?_
  refine lv_if_ne (tgt := 17) hx hb js_d_isLatin1_10 (by decide) (fun q => absurd rfl q) (fun _ => ?_)
  refine lv_iconst (v := 1) hx hb js_d_isLatin1_13 (by decide) ?_
  refine lv_goto (tgt := 18) hx hb js_d_isLatin1_14 (by decide) ?_
  exact W.zret (ty := .boolean) hx hb hr (by decide +kernel) (fun t ht _ => ⟨rfl, ht⟩) (js_nil hS) js_d_isLatin1_18
theorem js_ln : ∀ i, i < 3 → ([5, 5, 4] : List Nat).getD i 0 = (pm_str i).length ∧ Int32.ofNat (([5, 5, 4] : List Nat).getD i 0) >>> ((0 : Int32) &&& 31) = Int32.ofInt ((pm_str i).length) := by decide +kernel
theorem js_len {i : Nat} (hi : i < 3) : Met l yJ0_length_8abf5 (jw yJ0_length_8abf5 cJ0_length_8abf5 1 (some .int)) (jrm 2 20) (jPc ad b0 [.ref (ad i)]) (jQ (some (.int (Int32.ofInt ((pm_str i).length))))) 0 0 (pm_A b0) := by
  refine js_met (by decide +kernel) (Nat.le_of_ble_eq_true rfl) (fun p e s m below meth c ls F hr hlocks hB hl => ?_)
  obtain ⟨hx, hb, hml, hown, hts⟩ := id F
  obtain ⟨hX, hb0⟩ := hB
  obtain ⟨⟨adV, hE⟩, -⟩ := id hX
  have hS : va_S (pm_A b0) s.heap s.heap [] := va_S.rf
  have hl : lv_has ls 1 [(0, .ref (ad i))] := hl
  refine lv_aload_n hx hb js_d_length_0 rfl (lv_at hl 0 rfl) ?_
  refine vk_getf hx hb (hE.1 i hi).2.2.1 hS hown (hts _ (lw_good_in js_f9 rfl)) (fun x h => h) js_d_length_1 ?_
  refine va_tlen hx hb (hE.1 i hi).2.2.2 hS rfl js_d_length_4 ?_
  refine lv_aload_n hx hb js_d_length_5 rfl (lv_at hl 0 rfl) ?_
  refine js_V (as := []) hX hb0 hS hi F (js_coder hi) (js_cb hts js_c_coder js_i_RJ0 js_m_coder_RJ0 ⟨by decide, by decide, by decide +kernel⟩ ⟨by decide, by decide⟩) js_n_coder js_s_coder hl.1 (Nat.le_of_ble_eq_true rfl) js_d_length_6 ⟨by decide, by decide⟩ (fun locs1 S1 => ?_)
  refine lv_ishr hx hb js_d_length_9 ?_
  rw [(js_ln i hi).2]
  exact W.iret hx hb hr (fun t ht _ => ⟨rfl, ht⟩) (js_nil S1) js_d_length_10
theorem js_pck {x n : Int32} {o : Option Nat} (h1 : ¬ x < 0) (h2 : x < n) : Met l yJ3_checkIndex_8e157 (jw yJ3_checkIndex_8e157 cJ3_checkIndex_8e157 3 (some .int)) (jrm 1 0) (jPc ad b0 [.int x, .int n, va_rf o]) (jQ (some (.int x))) 0 0 (pm_A b0) := by
  refine js_met (by decide +kernel) (by cases o <;> exact Nat.le_of_ble_eq_true rfl) (fun p e s m below meth c ls F hr hlocks hB hl => ?_)
  obtain ⟨hx, hb, hml, hown, hts⟩ := F
  have hS : va_S (pm_A b0) s.heap s.heap [] := va_S.rf
  have hl : lv_has ls 3 [(0, .int x), (1, .int n), (2, va_rf o)] := hl
  refine lv_iload_n hx hb js_d_pcheck_0 rfl (lv_at hl 0 rfl) ?_
  refine lv_if_lt (tgt := 9) hx hb js_d_pcheck_1 (by decide) (fun q => absurd q h1) (fun _ => ?_)
  refine lv_iload_n hx hb js_d_pcheck_4 rfl (lv_at hl 0 rfl) ?_
  refine lv_iload_n hx hb js_d_pcheck_5 rfl (lv_at hl 1 rfl) ?_
  refine lv_icmp_lt (tgt := 16) hx hb js_d_pcheck_6 (by decide) (fun _ => ?_) (fun q => absurd h2 q)
  refine lv_iload_n hx hb js_d_pcheck_16 rfl (lv_at hl 0 rfl) ?_
  exact W.iret hx hb hr (fun t ht _ => ⟨rfl, ht⟩) (js_nil hS) js_d_pcheck_17
theorem js_chk {x n : Int32} (h1 : ¬ x < 0) (h2 : x < n) : Met l yJ0_checkIndex_df160 (jw yJ0_checkIndex_df160 cJ0_checkIndex_df160 2 none) (jrm 2 22) (jPc ad b0 [.int x, .int n]) (jQ none) 0 0 (pm_A b0) := by
  refine js_met (by decide +kernel) (Nat.le_of_ble_eq_true rfl) (fun p e s m below meth c ls F hr hlocks hB hl => ?_)
  obtain ⟨hx, hb, hml, hown, hts⟩ := id F
  obtain ⟨hX, hb0⟩ := hB
  have hS : va_S (pm_A b0) s.heap s.heap [] := va_S.rf
  have hl : lv_has ls 2 [(0, .int x), (1, .int n)] := hl
  refine lv_iload_n hx hb js_d_checkIndex_0 rfl (lv_at hl 0 rfl) ?_
  refine lv_iload_n hx hb js_d_checkIndex_1 rfl (lv_at hl 1 rfl) ?_
  have go : ∀ o : Option Nat, va_Z "jdk/internal/util/Preconditions" "SIOOBE_FORMATTER" "Ljava/util/function/BiFunction;" (va_rf o) (fun q => b0 ≤ q) s s.heap → W p l e (jrm 2 22) s m #[.int x, .int n] below meth c s.heap [] 0 0 (MQ below (jQ none) #[.int x, .int n] s 0 0 (pm_A b0)) (F0 m 2 ls [.int n, .int x]) := by
    intro o hZ
    refine va_gets hx hb hZ hS hown (hts _ (lw_good_in js_f1053 rfl)) (fun x h => h) js_d_checkIndex_2 ?_
    refine js_S (as := [.int x, .int n, va_rf o]) (rest := []) hX hb0 hS F (js_pck h1 h2) (js_cb hts js_c_pcheck js_i_RJ3 js_m_pcheck_RJ0 js_hn_pcheck ⟨by decide, by decide⟩) js_t_pcheck hl.1 (Nat.le_of_ble_eq_true rfl) js_d_checkIndex_5 ⟨by decide, by decide⟩ (fun locs1 S1 => ?_)
    refine lv_pop hx hb js_d_checkIndex_8 rfl ?_
    exact W.vret hx hb hr (fun t ht _ => ⟨rfl, ht⟩) (js_nil S1) js_d_checkIndex_9
  rcases hX.2.2.2 with h | ⟨t, h⟩
  · exact go none h
  · exact go (some t) h
def jT (ad : Nat → Nat) (b0 t N : Nat) (f : Nat → Int32) (U : State) : Prop := (pm_Sx ad b0 U ∧ b0 ≤ U.heap.size) ∧ va_T .byte t N (fun j => .int (f j)) (pm_A b0) U U.heap
theorem js_lch {t N : Nat} {f : Nat → Int32} {x v : Int32} (hN : N < 1000) (hin : vp_in x N) (hv : ((f x.toNatClampNeg &&& 255).toUInt32 % 65536).toInt32 = v) (hn : narrow .char (.int v) = .int v) : Met l yJ1_charAt_3b067 (jw yJ1_charAt_3b067 cJ1_charAt_3b067 2 (some .char)) (jrm 3 43) (va_Pc [.ref t, .int x] (jT ad b0 t N f)) (jQ (some (.int v))) 0 0 (pm_A b0) := by
  refine js_met (by decide +kernel) (Nat.le_of_ble_eq_true rfl) (fun p e s m below meth c ls F hr hlocks hB hl => ?_)
  obtain ⟨hx, hb, hml, hown, hts⟩ := id F
  obtain ⟨⟨hX, hb0⟩, hT⟩ := hB
  have hS : va_S (pm_A b0) s.heap s.heap [] := va_S.rf
  have hl : lv_has ls 2 [(0, .ref t), (1, .int x)] := hl
  have h1 : ¬ x < 0 := fun q => hin (Or.inl q)
  have h2 : x < Int32.ofNat N := by
    have e1 : (Int32.ofNat N).toInt = N := Int32.toInt_ofNat_of_lt (by omega)
    have h3 : x.toNatClampNeg < N := Nat.not_le.mp fun q => hin (Or.inr q)
    rw [Int32.lt_iff_toInt_lt, e1]
    have h4 : x.toInt.toNat < N := h3
    omega
  refine lv_iload_n hx hb js_d_lcharAt_0 rfl (lv_at hl 1 rfl) ?_
  refine lv_aload_n hx hb js_d_lcharAt_1 rfl (lv_at hl 0 rfl) ?_
  refine va_tlen hx hb hT hS rfl js_d_lcharAt_2 ?_
  refine js_S (as := [.int x, .int (Int32.ofNat N)]) (rest := []) hX hb0 hS F (js_chk h1 h2) (js_cb hts js_c_checkIndex js_i_RJ0 js_m_checkIndex_RJ1 js_hn_checkIndex ⟨by decide, by decide⟩) js_t_checkIndex hl.1 (Nat.le_of_ble_eq_true rfl) js_d_lcharAt_3 ⟨by decide, by decide⟩ (fun locs1 S1 => ?_)
  refine lv_aload_n hx hb js_d_lcharAt_6 rfl (lv_at hl 0 rfl) ?_
  refine lv_iload_n hx hb js_d_lcharAt_7 rfl (lv_at hl 1 rfl) ?_
  refine va_tb hx hb hT S1 hin rfl js_d_lcharAt_8 ?_
  refine lv_sipush (v := 255) hx hb js_d_lcharAt_9 (by decide) ?_
  refine lv_iand hx hb js_d_lcharAt_12 ?_
  refine lv_i2c hx hb js_d_lcharAt_13 hv ?_
  exact W.zret (ty := .char) hx hb hr hn (fun t ht _ => ⟨rfl, ht⟩) (js_nil S1) js_d_lcharAt_14
theorem js_sv : ∀ i, i < 3 → ∀ k, k < 5 → (((([[115, 116, 114, 105, 112], [99, 108, 111, 116, 104], [116, 117, 114, 110]] : List (List Int32)).getD i []).getD k 0 &&& 255).toUInt32 % 65536).toInt32 = Int32.ofInt ((pm_str i).getD k 0) := by decide +kernel
theorem js_sn : ∀ i, i < 3 → ∀ k, k < 5 → narrow .char (.int (Int32.ofInt ((pm_str i).getD k 0))) = .int (Int32.ofInt ((pm_str i).getD k 0)) := by decide +kernel
theorem js_l5 : ∀ i, i < 3 → (pm_str i).length ≤ 5 := by decide
theorem js_cha {i : Nat} {x : Int32} (hi : i < 3) (hin : vp_in x (pm_str i).length) : Met l yJ0_charAt_5068e (jw yJ0_charAt_5068e cJ0_charAt_5068e 2 (some .char)) (jrm 4 64) (jPc ad b0 [.ref (ad i), .int x]) (jQ (some (.int (Int32.ofInt ((pm_str i).getD x.toNatClampNeg 0))))) 0 0 (pm_A b0) := by
  have hk : x.toNatClampNeg < 5 := Nat.lt_of_lt_of_le (Nat.not_le.mp fun q => hin (Or.inr q)) (js_l5 i hi)
  refine js_met (by decide +kernel) (Nat.le_of_ble_eq_true rfl) (fun p e s m below meth c ls F hr hlocks hB hl => ?_)
  obtain ⟨hx, hb, hml, hown, hts⟩ := id F
  obtain ⟨hX, hb0⟩ := hB
  obtain ⟨⟨adV, hE⟩, -⟩ := id hX
  have hS : va_S (pm_A b0) s.heap s.heap [] := va_S.rf
  have hl : lv_has ls 2 [(0, .ref (ad i)), (1, .int x)] := hl
  refine lv_aload_n hx hb js_d_charAt_0 rfl (lv_at hl 0 rfl) ?_
  refine js_V (as := []) (rest := []) hX hb0 hS hi F (js_lat hi) (js_cb hts js_c_isLatin1 js_i_RJ0 js_m_isLatin1_RJ0 ⟨by decide, by decide, by decide +kernel⟩ ⟨by decide, by decide⟩) js_n_isLatin1 js_s_isLatin1 hl.1 (Nat.le_of_ble_eq_true rfl) js_d_charAt_1 ⟨by decide, by decide⟩ (fun locs1 S1 => ?_)
  refine lv_if_eq (tgt := 16) hx hb js_d_charAt_4 (by decide) (fun q => absurd q (by decide)) (fun _ => ?_)
  refine lv_aload_n hx hb js_d_charAt_7 rfl (lv_at hl 0 rfl) ?_
  refine vk_getf hx hb (hE.1 i hi).2.2.1 S1 hown (hts _ (lw_good_in js_f9 rfl)) (fun x h => h) js_d_charAt_8 ?_
  refine lv_iload_n hx hb js_d_charAt_11 rfl (lv_at hl 1 rfl) ?_
  have hT := (hE.1 i hi).2.2.2
  have hin' : vp_in x (([5, 5, 4] : List Nat).getD i 0) := by rw [(js_ln i hi).1]; exact hin
  have M := js_lch (l := l) (ad := ad) (b0 := b0) (t := adV i) (N := ([5, 5, 4] : List Nat).getD i 0) (f := fun j => (([[115, 116, 114, 105, 112], [99, 108, 111, 116, 104], [116, 117, 114, 110]] : List (List Int32)).getD i []).getD j 0) (by rw [(js_ln i hi).1]; have := js_l5 i hi; omega) hin' (js_sv i hi _ hk) (js_sn i hi _ hk)
  refine js_cont (va_runS (As := [.ref (adV i), .int x]) (rest := []) F M ⟨js_cb hts js_c_lcharAt js_i_RJ1 js_m_lcharAt_RJ0 js_hn_lcharAt ⟨by decide, by decide⟩, hts _ (lw_good_in js_t_lcharAt rfl)⟩ ⟨fun a U g mk q => by
      obtain ⟨q0, ⟨q1, q2⟩, q3⟩ := q
      exact ⟨q0, ⟨q1.same rfl rfl, q2⟩, va_T.moved (u := U) (U := U.calling g mk a) (Vm.Alike.refl U.vm) q3⟩, fun U hU hW => ⟨rfl, ⟨hX.moved hW (fun a h1 h2 => by rw [hU]), by rw [hU]; exact hb0⟩, by rw [hU]; exact va_T.moved hW.alike hT⟩⟩ rfl rfl hl.1 rfl (lv_room (Nat.le_of_ble_eq_true rfl)) js_d_charAt_12 ⟨by decide, by decide⟩) S1 (fun locs2 S2 => ?_)
  exact W.zret (ty := .char) hx hb hr (js_sn i hi _ hk) (fun t ht _ => ⟨rfl, ht⟩) (js_nil S2) js_d_charAt_15
end JM
section SDS
variable {b0 : Nat} {D : va_G} {cA : Nat → ClassId} {ad : Nat → Nat} {p : Program} {l : Launch} {e : Env} {R : Room} {s : State} {m : MethodId} {args : Array Value} {below : List Frame} {meth : Method} {c : Code} {H : Heap} {locs : List Loc} {cells slots : Nat} {Q : State → Prop} {mi pc : Nat} {ls : Array Slot} {rest : List Value}
theorem sd_slen (C : pm_Cx b0 D cA ad p s m args meth c mi) (hS : va_S (pm_A b0) s.heap H locs) (hls : ls.size = pm_L mi) (ho : pm_o mi = 10) (hd : decode (pm_b mi) pc = .ok (.invokevirtual 45, 3)) (hR : 4 ≤ R.frames ∧ 60 ≤ R.locals) (hrok : pm_rok rest = true) (hcs : cells ≤ R.cells ∧ slots ≤ R.slots) {i : Nat} (hi : i < 3)
    (k : ∀ locs1 : List Loc, va_S (pm_A b0) s.heap H locs1 → W p l e R s m args below meth c H locs1 cells slots Q (F0 m (pc + 3) ls (.int (Int32.ofInt ((pm_str i).length)) :: rest.map (pm_mv b0 ad)))) : W p l e R s m args below meth c H locs cells slots Q (F0 m pc ls (.ref (ad i) :: rest.map (pm_mv b0 ad))) := by
  obtain ⟨hx, hb, hml, hown, -, -, -, hts, hK, hb0, -, hX, -⟩ := C
  rw [ho] at hown
  exact js_V (own := RX10) (as := []) hX hb0 hS hi ⟨hx, hb, hml, hown, hts⟩ (js_len hi) (js_cb hts js_c_length js_i_RJ0 js_m_length_RX10 ⟨by decide, by decide, by decide +kernel⟩ ⟨by omega, by omega⟩) js_n_length js_s_length hls (sd_sum hrok) hd ⟨hcs.1, hcs.2⟩ k
theorem sd_sch (C : pm_Cx b0 D cA ad p s m args meth c mi) (hS : va_S (pm_A b0) s.heap H locs) (hls : ls.size = pm_L mi) (ho : pm_o mi = 10) (hd : decode (pm_b mi) pc = .ok (.invokevirtual 51, 3)) (hR : 6 ≤ R.frames ∧ 120 ≤ R.locals) (hrok : pm_rok rest = true) (hcs : cells ≤ R.cells ∧ slots ≤ R.slots) {i : Nat} (hi : i < 3) {x : Int32} (hx : vp_in x (pm_str i).length)
    (k : ∀ locs1 : List Loc, va_S (pm_A b0) s.heap H locs1 → W p l e R s m args below meth c H locs1 cells slots Q (F0 m (pc + 3) ls (.int (Int32.ofInt ((pm_str i).getD x.toNatClampNeg 0)) :: rest.map (pm_mv b0 ad)))) : W p l e R s m args below meth c H locs cells slots Q (F0 m pc ls (.int x :: .ref (ad i) :: rest.map (pm_mv b0 ad))) := by
  obtain ⟨hx0, hb, hml, hown, -, -, -, hts, hK, hb0, -, hX, -⟩ := C
  rw [ho] at hown
  exact js_V (own := RX10) (as := [.int x]) hX hb0 hS hi ⟨hx0, hb, hml, hown, hts⟩ (js_cha hi hx) (js_cb hts js_c_charAt js_i_RJ0 js_m_charAt_RX10 js_hn_charAt ⟨by omega, by omega⟩) js_n_charAt js_s_charAt hls (sd_sum hrok) hd ⟨hcs.1, hcs.2⟩ k
end SDS
theorem sd_wrQ {mi pc pc' : Nat} {L : pm_Lo} {st st' : List Value} {h h' g : pm_H} {r : Option Value} (en : zn g = zn h) (ek : zk g = zk h) (k : pm_P mi pc' L st' g r h')
    (f : ∀ (b0 : Nat) (D : va_G) (cA : Nat → ClassId) (ad : Nat → Nat) (p : Program) (l : Launch) (e : Env) (R : Room) (s : State) (m : MethodId) (args : Array Value) (below : List Frame) (meth : Method) (c : Code) (H : Heap) (locs : List Loc) (cells slots : Nat) (Q : State → Prop) (ls : Array Slot), pm_Cx b0 D cA ad p s m args meth c mi → pm_Rel b0 D cA h H → ls.size = pm_L mi → R.frames = pm_f mi ∧ R.locals = pm_lo mi → cells ≤ R.cells ∧ slots ≤ R.slots → va_S (pm_A b0) s.heap H locs → (∀ (H1 : Heap) (locs1 : List Loc), pm_Rel b0 D cA g H1 → va_S (pm_A b0) s.heap H1 locs1 → W p l e R s m args below meth c H1 locs1 cells slots Q (F0 m pc' ls (st'.map (pm_mv b0 ad)))) → W p l e R s m args below meth c H locs cells slots Q (F0 m pc ls (st.map (pm_mv b0 ad)))) : pm_P mi pc L st h r h' := by
  have k1 := k.1
  rw [en, ek] at k1
  refine ⟨k1, fun b0 D cA ad p l e s m args below meth c H locs ls n0 k0 C R LR S hn hk => f b0 D cA ad p l e (pm_rm mi (zn h' - n0) (zk h' - k0)) s m args below meth c H locs _ _ _ ls C R LR.2.1 ⟨rfl, rfl⟩ ⟨Nat.sub_le_sub_right k1.1 _, Nat.sub_le_sub_right k1.2 _⟩ S (fun H1 locs1 R1 S1 => ?_)⟩
  have K := k.2 b0 D cA ad p l e s m args below meth c H1 locs1 ls n0 k0 C R1 LR S1 (by rw [en]; exact hn) (by rw [ek]; exact hk)
  rw [en, ek] at K
  exact K
theorem sd_tgt {t : Int} (h : decide (0 ≤ t) = true) (pc : Nat) : (pc : Int) + (t - pc) = ((t.toNat : Nat) : Int) := by
  have := of_decide_eq_true h
  omega
theorem sd_pad {st : List Value} {n : Nat} {as tl : List Value} (h : pm_pop n [] st = some (as, tl)) : st = as.reverse ++ tl ∧ as.length = n := by
  obtain ⟨h1, h2⟩ := pm_pop_spec n [] st as tl h
  exact ⟨h1.symm, by simpa using h2⟩
theorem sd_opQ {mi pc len : Nat} {L : pm_Lo} {st : List Value} {h : pm_H} {r : Option Value} {h' : pm_H} {ins : Instr} (hlk : pm_lk mi ins = true) (hln : pm_ln ins = 0 ∨ pm_ln ins = len) (hd : decode (pm_b mi) pc = .ok (pm_ur pc ins, len)) (k : pm_K pm_P mi pc L h r h' (match pm_op ins st with | some st' => s_nx (pc + len) L st' h | none => none)) : pm_P mi pc L st h r h' := sd_opP k hd hln hlk
theorem pm_o_lt (mi : Nat) (h : mi < 180) (hs : pm_sk mi = 1) : pm_o mi < 14 := by
  have q : ((List.range 180).all fun i => !(Nat.beq (pm_sk i) 1) || Nat.blt (pm_o i) 14) = true := by decide +kernel
  have q2 := List.all_eq_true.mp q mi (List.mem_range.mpr h)
  rw [hs] at q2
  have q3 : Nat.blt (pm_o mi) 14 = true := by simpa only [Nat.beq_refl, Bool.not_true, Bool.false_or] using q2
  exact Nat.le_of_ble_eq_true q3
theorem sd_retP {mi pc : Nat} {L : pm_Lo} {st : List Value} {h : pm_H} {r : Option Value}
    (f : ∀ (b0 : Nat) (D : va_G) (cA : Nat → ClassId) (ad : Nat → Nat) (p : Program) (l : Launch) (e : Env) (R : Room) (s : State) (m : MethodId) (args : Array Value) (below : List Frame) (meth : Method) (c : Code) (H : Heap) (locs : List Loc) (cells slots : Nat) (ls : Array Slot) (Qc : Array Value → State → Outcome → State → Prop), pm_Cx b0 D cA ad p s m args meth c mi → va_S (pm_A b0) s.heap H locs → (∀ t : State, t.heap = H → s.WarmedH t.vm → Qc args s (.returned (r.map (pm_mv b0 ad))) t) → W p l e R s m args below meth c H locs cells slots (MQ below Qc args s cells slots (pm_A b0)) (F0 m pc ls (st.map (pm_mv b0 ad)))) : pm_P mi pc L st h r h :=
  ⟨⟨Nat.le_refl _, Nat.le_refl _⟩, fun b0 D cA ad p l e s m args below meth c H locs ls n0 k0 C R LR S hn hk => f b0 D cA ad p l e _ s m args below meth c H locs _ _ ls _ C S (fun t ht _ => ⟨rfl, by rw [ht]; exact R, by rw [ht]; exact S.1, fun q hq => by rw [ht]; exact S.2.1 q (Nat.lt_of_lt_of_le hq C.2.2.2.2.2.2.2.2.2.1) (Nat.not_le.mpr hq)⟩)⟩
set_option maxHeartbeats 4000000 in
theorem sd_step {mi pc len : Nat} {L : pm_Lo} {st : List Value} {h : pm_H} {r : Option Value} {h' : pm_H} {ins : Instr} (k : pm_K pm_P mi pc L h r h' (pm_ex mi pc len ins L st h)) (hm : mi < 180) (hd : decode (pm_b mi) pc = .ok (pm_ur pc ins, len)) (hln : pm_ln ins = 0 ∨ pm_ln ins = len) (hlk : pm_lk mi ins = true) : pm_P mi pc L st h r h' := by
  cases ins
  case iload i =>
    obtain rfl := sd_len (n := 2) (by decide) hln
    simp only [pm_ex] at k; split at k
    case h_1 heq => exact sd_ld (.iload i) heq k (fun _ _ _ _ _ _ _ _ _ _ _ _ _ _ _ _ _ _ hx hb hl K => lv_iload hx hb hd hl K)
    case h_2 => exact k.elim
  case iload_n i =>
    obtain rfl := sd_len (n := 1) (by decide) hln
    simp only [pm_ex] at k; split at k
    case h_1 heq => exact sd_ld (.iload_n i) heq k (fun _ _ _ _ _ _ _ _ _ _ _ _ _ _ _ _ _ _ hx hb hl K => lv_iload_n hx hb hd rfl hl K)
    case h_2 => exact k.elim
  case lload i =>
    obtain rfl := sd_len (n := 2) (by decide) hln
    simp only [pm_ex] at k; split at k
    case h_1 heq => exact sd_ld (.lload i) heq k (fun _ _ _ _ _ _ _ _ _ _ _ _ _ _ _ _ _ _ hx hb hl K => lv_lload hx hb hd hl K)
    case h_2 => exact k.elim
  case lload_n i =>
    obtain rfl := sd_len (n := 1) (by decide) hln
    simp only [pm_ex] at k; split at k
    case h_1 heq => exact sd_ld (.lload_n i) heq k (fun _ _ _ _ _ _ _ _ _ _ _ _ _ _ _ _ _ _ hx hb hl K => lv_lload_n hx hb hd rfl hl K)
    case h_2 => exact k.elim
  case aload i =>
    obtain rfl := sd_len (n := 2) (by decide) hln
    simp only [pm_ex] at k; split at k
    case h_1 heq => exact sd_ld (.aload i) heq k (fun _ _ _ _ _ _ _ _ _ _ _ _ _ _ _ _ _ _ hx hb hl K => lv_aload hx hb hd hl K)
    case h_2 heq => exact sd_ld (.aload i) heq k (fun _ _ _ _ _ _ _ _ _ _ _ _ _ _ _ _ _ _ hx hb hl K => lv_aloadN hx hb hd hl K)
    case h_3 heq => exact sd_ld (.aload i) heq k (fun _ _ _ _ _ _ _ _ _ _ _ _ _ _ _ _ _ _ hx hb hl K => lv_aload hx hb hd hl K)
    case h_4 => exact k.elim
  case aload_n i =>
    obtain rfl := sd_len (n := 1) (by decide) hln
    simp only [pm_ex] at k; split at k
    case h_1 heq => exact sd_ld (.aload_n i) heq k (fun _ _ _ _ _ _ _ _ _ _ _ _ _ _ _ _ _ _ hx hb hl K => lv_aload_n hx hb hd rfl hl K)
    case h_2 heq => exact sd_ld (.aload_n i) heq k (fun _ _ _ _ _ _ _ _ _ _ _ _ _ _ _ _ _ _ hx hb hl K => lv_aload_nN hx hb hd rfl hl K)
    case h_3 heq => exact sd_ld (.aload_n i) heq k (fun _ _ _ _ _ _ _ _ _ _ _ _ _ _ _ _ _ _ hx hb hl K => lv_aload_n hx hb hd rfl hl K)
    case h_4 => exact k.elim
  case istore i =>
    obtain rfl := sd_len (n := 2) (by decide) hln
    simp only [pm_ex] at k; split at k
    case h_1 =>
      cases hok : pm_ok L i with
      | false => rw [hok] at k; exact k.elim
      | true => rw [hok] at k; exact sd_st hok k (fun _ _ _ _ _ _ _ _ _ _ _ _ _ _ _ _ _ _ _ hx hb hl hi K => lv_istore hx hb hd hl hi rfl K)
    case h_2 => exact k.elim
  case istore_n i =>
    obtain rfl := sd_len (n := 1) (by decide) hln
    simp only [pm_ex] at k; split at k
    case h_1 =>
      cases hok : pm_ok L i.val with
      | false => rw [hok] at k; exact k.elim
      | true => rw [hok] at k; exact sd_st hok k (fun _ _ _ _ _ _ _ _ _ _ _ _ _ _ _ _ _ _ _ hx hb hl hi K => lv_istore_n hx hb hd rfl hl hi rfl K)
    case h_2 => exact k.elim
  case astore i =>
    obtain rfl := sd_len (n := 2) (by decide) hln
    simp only [pm_ex] at k; split at k
    case h_1 =>
      cases hok : pm_ok L i with
      | false => rw [hok] at k; exact k.elim
      | true => rw [hok] at k; exact sd_st hok k (fun _ _ _ _ _ _ _ _ _ _ _ _ _ _ _ _ _ _ _ hx hb hl hi K => lv_astore hx hb hd hl hi rfl K)
    case h_2 =>
      cases hok : pm_ok L i with
      | false => rw [hok] at k; exact k.elim
      | true => rw [hok] at k; exact sd_st hok k (fun _ _ _ _ _ _ _ _ _ _ _ _ _ _ _ _ _ _ _ hx hb hl hi K => lv_astoreN hx hb hd hl hi rfl K)
    case h_3 => exact k.elim
  case astore_n i =>
    obtain rfl := sd_len (n := 1) (by decide) hln
    simp only [pm_ex] at k; split at k
    case h_1 =>
      cases hok : pm_ok L i.val with
      | false => rw [hok] at k; exact k.elim
      | true => rw [hok] at k; exact sd_st hok k (fun _ _ _ _ _ _ _ _ _ _ _ _ _ _ _ _ _ _ _ hx hb hl hi K => lv_astore_n hx hb hd rfl hl hi rfl K)
    case h_2 =>
      cases hok : pm_ok L i.val with
      | false => rw [hok] at k; exact k.elim
      | true => rw [hok] at k; exact sd_st hok k (fun _ _ _ _ _ _ _ _ _ _ _ _ _ _ _ _ _ _ _ hx hb hl hi K => lv_astore_nN hx hb hd rfl hl hi rfl K)
    case h_3 => exact k.elim
  case lstore i =>
    obtain rfl := sd_len (n := 2) (by decide) hln
    simp only [pm_ex] at k; split at k
    case h_1 =>
      cases hok : (pm_ok L i && Nat.blt (i + 1) L.length) with
      | false => rw [hok] at k; exact k.elim
      | true =>
        rw [hok] at k
        simp only [Bool.and_eq_true] at hok
        refine ⟨k.1, fun b0 D cA ad p l e s m args below meth c H locs ls n0 k0 C R LR S hn hk => ?_⟩
        exact lv_lstore C.1 C.2.1 hd LR.2 (by have : i + 1 < L.length := Nat.le_of_ble_eq_true hok.2; rw [LR.1] at this; exact this) rfl (fun ls' h9 => k.2 b0 D cA ad p l e s m args below meth c H locs ls' n0 k0 C R (LR.set2 hok.1 (Nat.le_of_ble_eq_true hok.2) h9) S hn hk)
    case h_2 => exact k.elim
  case iinc i n =>
    obtain rfl := sd_len (n := 3) (by decide) hln
    simp only [pm_ex] at k; split at k
    case h_1 x heq =>
      cases hok : pm_ok L i with
      | false => rw [hok] at k; exact k.elim
      | true =>
        rw [hok] at k
        refine ⟨k.1, fun b0 D cA ad p l e s m args below meth c H locs ls n0 k0 C R LR S hn hk => ?_⟩
        obtain ⟨j, hj⟩ := List.getElem?_of_mem (pm_as_mem (b0 := b0) (ad := ad) (L := L) (q := (i, Value.int x)) |>.mpr ⟨.int x, heq, rfl⟩)
        exact lv_iinc C.1 C.2.1 hd LR.2 hj rfl (by have := pm_ok_lt hok; rw [LR.1] at this; exact this) rfl (fun ls' h9 => k.2 b0 D cA ad p l e s m args below meth c H locs ls' n0 k0 C R (LR.set1 (v := .int (x + Int32.ofInt n)) hok h9) S hn hk)
    case h_2 => exact k.elim
  case idiv =>
    obtain rfl := sd_len (n := 1) (by decide) hln
    simp only [pm_ex] at k; split at k
    case h_1 => exact sd_mvP k.2 (fun _ _ _ _ _ _ _ _ _ _ _ _ _ _ _ _ _ _ _ _ C _ _ _ _ K => lv_idiv C.1 C.2.1 hd k.1 K)
    case h_2 => exact k.elim
  case irem =>
    obtain rfl := sd_len (n := 1) (by decide) hln
    simp only [pm_ex] at k; split at k
    case h_1 => exact sd_mvP k.2 (fun _ _ _ _ _ _ _ _ _ _ _ _ _ _ _ _ _ _ _ _ C _ _ _ _ K => lv_irem C.1 C.2.1 hd k.1 K)
    case h_2 => exact k.elim
  case ifCond cn t =>
    obtain rfl := sd_len (n := 3) (by decide) hln
    simp only [pm_ex] at k; split at k
    case h_1 =>
      refine sd_br k (fun _ _ _ _ _ _ _ _ _ _ _ _ _ _ _ _ _ _ hx hb kt kf => ?_)
      have ht := sd_tgt hlk pc
      cases cn
      · exact lv_if_eq hx hb hd ht kt kf
      · exact lv_if_ne hx hb hd ht kt (fun q => kf (fun z => z q))
      · exact lv_if_lt hx hb hd ht kt kf
      · exact lv_if_ge hx hb hd ht kt kf
      · exact lv_if_gt hx hb hd ht kt kf
      · exact lv_if_le hx hb hd ht kt kf
    case h_2 => exact k.elim
  case if_icmp cn t =>
    obtain rfl := sd_len (n := 3) (by decide) hln
    simp only [pm_ex] at k; split at k
    case h_1 =>
      refine sd_br k (fun _ _ _ _ _ _ _ _ _ _ _ _ _ _ _ _ _ _ hx hb kt kf => ?_)
      have ht := sd_tgt hlk pc
      cases cn
      · exact lv_icmp_eq hx hb hd ht kt kf
      · exact lv_icmp_ne hx hb hd ht kt (fun q => kf (fun z => z q))
      · exact lv_icmp_lt hx hb hd ht kt kf
      · exact lv_icmp_ge hx hb hd ht kt kf
      · exact lv_icmp_gt hx hb hd ht kt kf
      · exact lv_icmp_le hx hb hd ht kt kf
    case h_2 => exact k.elim
  case goto t =>
    obtain rfl := sd_len (n := 3) (by decide) hln
    exact sd_mvP k (fun _ _ _ _ _ _ _ _ _ _ _ _ _ _ _ _ _ _ _ _ C _ _ _ _ K => lv_goto C.1 C.2.1 hd (sd_tgt hlk pc) K)
  case ifnull t =>
    obtain rfl := sd_len (n := 3) (by decide) hln
    simp only [pm_ex] at k; split at k
    case h_1 => exact sd_mvP k (fun _ _ _ _ _ _ _ _ _ _ _ _ _ _ _ _ _ _ _ _ C _ _ _ _ K => lv_ifnullN C.1 C.2.1 hd (sd_tgt hlk pc) K)
    case h_2 => exact sd_mvP k (fun _ _ _ _ _ _ _ _ _ _ _ _ _ _ _ _ _ _ _ _ C _ _ _ _ K => lv_ifnull C.1 C.2.1 hd K)
    case h_3 => exact k.elim
  case ifnonnull t =>
    obtain rfl := sd_len (n := 3) (by decide) hln
    simp only [pm_ex] at k; split at k
    case h_1 => exact sd_mvP k (fun _ _ _ _ _ _ _ _ _ _ _ _ _ _ _ _ _ _ _ _ C _ _ _ _ K => lv_ifnonnullN C.1 C.2.1 hd K)
    case h_2 => exact sd_mvP k (fun _ _ _ _ _ _ _ _ _ _ _ _ _ _ _ _ _ _ _ _ C _ _ _ _ K => lv_ifnonnull C.1 C.2.1 hd (sd_tgt hlk pc) K)
    case h_3 => exact k.elim
  case tableswitch d lo hi offs =>
    simp only [pm_ex] at k; split at k
    case h_1 x _ =>
      simp only [pm_lk, Bool.and_eq_true, decide_eq_true_eq, List.all_eq_true] at hlk
      obtain ⟨⟨⟨g1, g2⟩, g3⟩, g4⟩ := hlk
      refine sd_mvP k (fun _ _ _ _ _ _ _ _ _ _ _ _ _ _ _ _ _ _ _ _ C _ _ _ _ K => ?_)
      unfold pm_tsw at K
      by_cases hq : x.toInt < lo ∨ hi < x.toInt
      · rw [if_pos hq] at K
        exact lv_tableOut C.1 C.2.1 hd hq (by omega) K
      · rw [if_neg hq] at K
        have hlt : (x.toInt - lo).toNat < offs.size := by rw [g3]; omega
        have hz : 0 ≤ offs.getD (x.toInt - lo).toNat 0 := by
          rw [Array.getD_eq_getD_getElem?, Array.getElem?_eq_getElem hlt]
          exact g4 _ (Array.getElem_mem_toList hlt)
        refine lv_tableIn C.1 C.2.1 hd (fun z => hq (Or.inl z)) (fun z => hq (Or.inr z)) (off := offs.getD (x.toInt - lo).toNat 0 - pc) ?_ (by omega) K
        rw [Array.getElem?_map, Array.getD_eq_getD_getElem?, Array.getElem?_eq_getElem hlt]
        rfl
    case h_2 => exact k.elim
  case lookupswitch d ps =>
    simp only [pm_ex] at k; split at k
    case h_1 x _ =>
      simp only [pm_lk, Bool.and_eq_true, decide_eq_true_eq] at hlk
      obtain ⟨⟨g1, g2⟩, g3⟩ := hlk
      have g2' : ∀ q ∈ ps.toList, 0 ≤ q.2 := fun q hq => of_decide_eq_true (List.all_eq_true.mp g2 q hq)
      refine sd_mvP k (fun _ _ _ _ _ _ _ _ _ _ _ _ _ _ _ _ _ _ _ _ C _ _ _ _ K => ?_)
      refine lv_lookup C.1 C.2.1 hd ?_ rfl ?_ K
      · rw [Array.toList_map]
        have e1 : ((ps.toList.map (fun q : Int × Int => (q.1, q.2 - (pc : Int)))).zip ((ps.toList.map (fun q : Int × Int => (q.1, q.2 - (pc : Int)))).drop 1)) = (ps.toList.zip (ps.toList.drop 1)).map (fun w => ((w.1.1, w.1.2 - (pc : Int)), (w.2.1, w.2.2 - (pc : Int)))) := by
          rw [← List.map_drop, List.zip_map]
          rfl
        rw [e1, List.all_map]
        exact g3
      · rw [Array.toList_map]
        exact pm_lsw_off ps.toList d x pc g1 g2'
    case h_2 => exact k.elim
  case getfield g =>
    obtain rfl := sd_len (n := 3) (by decide) hln
    simp only [pm_ex] at k; split at k
    case h_1 => exact sd_mvP k.2 (fun _ _ _ _ _ _ _ _ _ _ _ _ _ _ _ _ _ _ _ _ C R _ _ _ K => sd_get C R k.1 hlk hd K)
    case h_2 => exact k.elim
  case putfield g =>
    obtain rfl := sd_len (n := 3) (by decide) hln
    have hlk' := hlk
    simp only [pm_lk, Bool.and_eq_true] at hlk'
    obtain ⟨hw, hc, hkN, hkd⟩ := pm_fkey hlk'.1.1 hlk'.1.2
    have hgd := pm_tygd _ hc _ hkN
    simp only [pm_ex] at k
    split at k
    case h_1 e0 =>
      rw [e0] at hkd
      have hty : pm_ty (g / 262144 % 16) (g / 2048 % 128) = .int := by
        cases hh : pm_ty (g / 262144 % 16) (g / 2048 % 128) <;> rw [hh] at hkd hgd <;> first | rfl | exact absurd hkd (by decide) | exact absurd hgd (by decide) | exact absurd hkd (by simp [pm_kd])
      split at k
      case h_1 x a _ =>
        refine sd_wrP (by rfl) (by rfl) k.2 (fun _ _ _ _ _ _ _ _ _ _ _ _ _ _ _ _ _ _ _ _ C R _ _ S K => sd_put C R S k.1 hlk hd (by rw [hty]; rfl) (by rw [hty]; rfl) (fun cell H' hap q1 z e1 o => ?_) K)
        refine R.fld (g := yI h a (g / 2048 % 128) x) k.1 hc hkN hap q1 (fun _ => rfl) (fun _ => rfl) rfl (fun b hb => zI_yAn h _ hb) (fun _ _ => rfl) (fun _ _ => rfl) ?_ ?_ z e1 o
        · rw [hty]
          show Value.int (zI (yA h a (va_up (zI h a) (g / 2048 % 128) x)) a (g / 2048 % 128)) = _
          rw [zI_yAs, va_upS]; try rfl
        · intro j kd hj
          have e9 : zI (yI h a (g / 2048 % 128) x) a j = zI h a j := by
            show zI (yA h a (va_up (zI h a) (g / 2048 % 128) x)) a j = _
            rw [zI_yAs, va_upN _ _ hj]
          match kd with
          | 0 => exact congrArg Value.int e9
          | 1 => rfl
          | 2 => rfl
          | n + 3 => exact congrArg Value.int e9
      case h_2 => exact k.elim
    case h_2 e0 =>
      rw [e0] at hkd
      have hty : (∃ n, pm_ty (g / 262144 % 16) (g / 2048 % 128) = .object n) ∨ ∃ t, pm_ty (g / 262144 % 16) (g / 2048 % 128) = .array t := by
        cases hh : pm_ty (g / 262144 % 16) (g / 2048 % 128) <;> rw [hh] at hkd hgd <;> first | exact Or.inl ⟨_, rfl⟩ | exact Or.inr ⟨_, rfl⟩ | exact absurd hkd (by decide) | exact absurd hgd (by decide) | exact absurd hkd (by simp [pm_kd])
      have eo : ∀ (b0 a : Nat) (v : Option Nat) (j kd : Nat), j ≠ g / 2048 % 128 → pm_fv b0 (yR h a (g / 2048 % 128) v) a j kd = pm_fv b0 h a j kd := by
        intro b0 a v j kd hj
        have e9 : zR (yR h a (g / 2048 % 128) v) a j = zR h a j := by
          show zR (yB h a (va_up (zR h a) (g / 2048 % 128) v)) a j = _
          rw [zR_yBs, va_upN _ _ hj]
        match kd with
        | 0 => rfl
        | 1 => exact congrArg (fun z => va_rf (z.map (b0 + ·))) e9
        | 2 => rfl
        | n + 3 => rfl
      have ev : ∀ (b0 a : Nat) (v : Option Nat), pm_fv b0 (yR h a (g / 2048 % 128) v) a (g / 2048 % 128) 1 = va_rf (v.map (b0 + ·)) := by
        intro b0 a v
        show va_rf ((zR (yB h a (va_up (zR h a) (g / 2048 % 128) v)) a (g / 2048 % 128)).map (b0 + ·)) = _
        rw [zR_yBs, va_upS]
      split at k
      case h_1 x a _ =>
        refine sd_wrP (by rfl) (by rfl) k.2 (fun _ _ _ _ _ _ _ _ _ _ _ _ _ _ _ _ _ _ _ _ C R _ _ S K => sd_put C R S k.1 hlk hd (by rcases hty with ⟨n, q⟩ | ⟨n, q⟩ <;> rw [q] <;> rfl) (by rcases hty with ⟨n, q⟩ | ⟨n, q⟩ <;> rw [q] <;> rfl) (fun cell H' hap q1 z e1 o => ?_) K)
        exact R.fld (g := yR h a (g / 2048 % 128) (some x)) k.1 hc hkN hap q1 (fun _ => rfl) (fun _ => rfl) rfl (fun _ _ => rfl) (fun b hb => zR_yBn h _ hb) (fun _ _ => rfl) (by rw [hkd]; exact ev _ _ _) (eo _ _ _) z e1 o
      case h_2 a _ =>
        refine sd_wrP (by rfl) (by rfl) k.2 (fun _ _ _ _ _ _ _ _ _ _ _ _ _ _ _ _ _ _ _ _ C R _ _ S K => sd_put C R S k.1 hlk hd (by rcases hty with ⟨n, q⟩ | ⟨n, q⟩ <;> rw [q] <;> rfl) (by rcases hty with ⟨n, q⟩ | ⟨n, q⟩ <;> rw [q] <;> rfl) (fun cell H' hap q1 z e1 o => ?_) K)
        exact R.fld (g := yR h a (g / 2048 % 128) none) k.1 hc hkN hap q1 (fun _ => rfl) (fun _ => rfl) rfl (fun _ _ => rfl) (fun b hb => zR_yBn h _ hb) (fun _ _ => rfl) (by rw [hkd]; exact ev _ _ _) (eo _ _ _) z e1 o
      case h_3 => exact k.elim
    case h_3 e0 =>
      rw [e0] at hkd
      have hty : pm_ty (g / 262144 % 16) (g / 2048 % 128) = .long := by
        cases hh : pm_ty (g / 262144 % 16) (g / 2048 % 128) <;> rw [hh] at hkd hgd <;> first | rfl | exact absurd hkd (by decide) | exact absurd hgd (by decide) | exact absurd hkd (by simp [pm_kd])
      split at k
      case h_1 x a _ =>
        refine sd_wrP (by rfl) (by rfl) k.2 (fun _ _ _ _ _ _ _ _ _ _ _ _ _ _ _ _ _ _ _ _ C R _ _ S K => sd_put C R S k.1 hlk hd (by rw [hty]; rfl) (by rw [hty]; rfl) (fun cell H' hap q1 z e1 o => ?_) K)
        refine R.fld (g := yJ h a (g / 2048 % 128) x) k.1 hc hkN hap q1 (fun _ => rfl) (fun _ => rfl) rfl (fun _ _ => rfl) (fun _ _ => rfl) (fun b hb => zJ_yLn h _ hb) ?_ ?_ z e1 o
        · rw [hty]
          show Value.long (zJ (yL h a (va_up (zJ h a) (g / 2048 % 128) x)) a (g / 2048 % 128)) = _
          rw [zJ_yLs, va_upS]; try rfl
        · intro j kd hj
          have e9 : zJ (yJ h a (g / 2048 % 128) x) a j = zJ h a j := by
            show zJ (yL h a (va_up (zJ h a) (g / 2048 % 128) x)) a j = _
            rw [zJ_yLs, va_upN _ _ hj]
          match kd with
          | 0 => rfl
          | 1 => rfl
          | 2 => exact congrArg Value.long e9
          | n + 3 => rfl
      case h_2 => exact k.elim
    case h_4 n0 n1 n2 =>
      have hty : pm_ty (g / 262144 % 16) (g / 2048 % 128) = .boolean := by
        cases hh : pm_ty (g / 262144 % 16) (g / 2048 % 128) <;> rw [hh] at hkd hgd <;> first | rfl | exact absurd hkd.symm n0 | exact absurd hkd.symm n1 | exact absurd hkd.symm n2 | exact absurd hgd (by decide)
      split at k
      case h_1 x a _ =>
        refine sd_wrP (by rfl) (by rfl) k.2 (fun _ _ _ _ _ _ _ _ _ _ _ _ _ _ _ _ _ _ _ _ C R _ _ S K => sd_put C R S k.1.1 hlk hd (v := .int x) (by rw [hty]; rcases k.1.2 with q | q <;> rw [q] <;> decide) (by rw [hty]; rcases k.1.2 with q | q <;> rw [q] <;> decide) (fun cell H' hap q1 z e1 o => ?_) K)
        refine R.fld (g := yI h a (g / 2048 % 128) x) k.1.1 hc hkN hap q1 (fun _ => rfl) (fun _ => rfl) rfl (fun b hb => zI_yAn h _ hb) (fun _ _ => rfl) (fun _ _ => rfl) ?_ ?_ z e1 o
        · rw [hty]
          show Value.int (zI (yA h a (va_up (zI h a) (g / 2048 % 128) x)) a (g / 2048 % 128)) = _
          rw [zI_yAs, va_upS]; try rfl
        · intro j kd hj
          have e9 : zI (yI h a (g / 2048 % 128) x) a j = zI h a j := by
            show zI (yA h a (va_up (zI h a) (g / 2048 % 128) x)) a j = _
            rw [zI_yAs, va_upN _ _ hj]
          match kd with
          | 0 => exact congrArg Value.int e9
          | 1 => rfl
          | 2 => rfl
          | n + 3 => exact congrArg Value.int e9
      case h_2 => exact k.elim
  case new g =>
    obtain rfl := sd_len (n := 3) (by decide) hln
    exact sd_alP (z := pm_N (g / 2048)) (by rfl) (by rfl) k (fun _ _ _ _ _ _ _ _ _ _ _ _ _ _ _ _ _ _ _ _ C R _ _ S h1 h2 K => sd_new C R S hlk hd h1 h2 K)
  case newarray t =>
    obtain rfl := sd_len (n := 2) (by decide) hln
    simp only [pm_ex] at k; split at k
    case h_1 n _ => exact sd_alP (z := n.toNatClampNeg) (by rfl) (by rfl) k.2 (fun _ _ _ _ _ _ _ _ _ _ _ _ _ _ _ _ _ _ _ _ C R _ _ S h1 h2 K => sd_newa C R S hlk hd k.1.1 k.1.2 h1 h2 K)
    case h_2 => exact k.elim
  case anewarray g =>
    obtain rfl := sd_len (n := 3) (by decide) hln
    simp only [pm_ex] at k; split at k
    case h_1 n _ => exact sd_alP (z := n.toNatClampNeg) (by rfl) (by rfl) k.2 (fun _ _ _ _ _ _ _ _ _ _ _ _ _ _ _ _ _ _ _ _ C R _ _ S h1 h2 K => sd_anew C R S hlk hd k.1.1 k.1.2 h1 h2 K)
    case h_2 => exact k.elim
  case arraylength =>
    obtain rfl := sd_len (n := 1) (by decide) hln
    simp only [pm_ex] at k; split at k
    case h_1 => exact sd_mvP k.2 (fun _ _ _ _ _ _ _ _ _ _ _ _ _ _ _ _ _ _ _ _ C R _ _ _ K => sd_alen C R k.1 hd K)
    case h_2 => exact k.elim
  case iaload =>
    obtain rfl := sd_len (n := 1) (by decide) hln
    simp only [pm_ex] at k; split at k
    case h_1 => exact sd_mvP k.2 (fun _ _ _ _ _ _ _ _ _ _ _ _ _ _ _ _ _ _ _ _ C R _ _ _ K => sd_iald C R k.1.1 k.1.2 hd K)
    case h_2 => exact k.elim
  case baload =>
    obtain rfl := sd_len (n := 1) (by decide) hln
    simp only [pm_ex] at k; split at k
    case h_1 => exact sd_mvP k.2 (fun _ _ _ _ _ _ _ _ _ _ _ _ _ _ _ _ _ _ _ _ C R _ _ _ K => sd_bald C R k.1.1 k.1.2 hd K)
    case h_2 => exact k.elim
  case caload =>
    obtain rfl := sd_len (n := 1) (by decide) hln
    simp only [pm_ex] at k; split at k
    case h_1 => exact sd_mvP k.2 (fun _ _ _ _ _ _ _ _ _ _ _ _ _ _ _ _ _ _ _ _ C R _ _ _ K => sd_zald C R k.1.1 k.1.2 hd K)
    case h_2 => exact k.elim
  case aaload =>
    obtain rfl := sd_len (n := 1) (by decide) hln
    simp only [pm_ex] at k; split at k
    case h_1 => exact sd_mvP k.2 (fun _ _ _ _ _ _ _ _ _ _ _ _ _ _ _ _ _ _ _ _ C R _ _ _ K => sd_aald C R k.1.1 k.1.2 hd K)
    case h_2 => exact k.elim
  case iastore =>
    obtain rfl := sd_len (n := 1) (by decide) hln
    simp only [pm_ex] at k; split at k
    case h_1 => exact sd_wrP (by rfl) (by rfl) k.2 (fun _ _ _ _ _ _ _ _ _ _ _ _ _ _ _ _ _ _ _ _ C R _ _ S K => sd_iast C R S k.1.1 k.1.2 hd K)
    case h_2 => exact k.elim
  case bastore =>
    obtain rfl := sd_len (n := 1) (by decide) hln
    simp only [pm_ex] at k; split at k
    case h_1 => exact sd_wrP (by rfl) (by rfl) k.2 (fun _ _ _ _ _ _ _ _ _ _ _ _ _ _ _ _ _ _ _ _ C R _ _ S K => sd_bast C R S k.1.1 k.1.2 hd K)
    case h_2 => exact k.elim
  case castore =>
    obtain rfl := sd_len (n := 1) (by decide) hln
    simp only [pm_ex] at k; split at k
    case h_1 => exact sd_wrP (by rfl) (by rfl) k.2 (fun _ _ _ _ _ _ _ _ _ _ _ _ _ _ _ _ _ _ _ _ C R _ _ S K => sd_zast C R S k.1.1 k.1.2.1 k.1.2.2 hd K)
    case h_2 => exact k.elim
  case aastore =>
    obtain rfl := sd_len (n := 1) (by decide) hln
    simp only [pm_ex] at k; split at k
    case h_1 => exact sd_wrP (by rfl) (by rfl) k.2 (fun _ _ _ _ _ _ _ _ _ _ _ _ _ _ _ _ _ _ _ _ C R _ _ S K => sd_aast C R S k.1.1 k.1.2.1 k.1.2.2 hd K)
    case h_2 => exact k.elim
  case invokevirtual g =>
    obtain rfl := sd_len (n := 3) (by decide) hln
    simp only [pm_lk, Bool.and_eq_true] at hlk
    simp only [pm_ex] at k; split at k
    case h_1 as b rest heq =>
      obtain ⟨e1, e2⟩ := sd_pad heq
      cases hok : (pm_rok rest && pm_aok (pm_L (g / 32768)) (.ref b :: as)) with
      | false => rw [hok] at k; exact k.elim
      | true =>
        rw [hok] at k
        simp only [Bool.and_eq_true] at hok
        have hmj : g / 32768 < 180 := by
          have := hlk.2
          simp only [pm_callok, Bool.and_eq_true] at this
          exact Nat.le_of_ble_eq_true this.1.1.2
        refine sd_callP (as := .ref b :: as) (rest := rest) hmj rfl hok.2 k.2 (fun b0 D cA ad p l e R s m args below meth c H locs cells slots mc ms ls Qc C Rl hls hR S hcs M => ?_)
        obtain ⟨cb, -, hsk⟩ := sd_cb (mc := mc) (ms := ms) C hlk.1.1 pm_vl_ok hlk.1.2 hlk.2 ⟨Nat.le_of_eq hR.1.symm, Nat.le_of_eq hR.2.symm⟩
        obtain ⟨m1, m2, m3, m4, m5, m6⟩ := pm_m_ok _ hmj
        rw [hsk] at m6
        have hc : pm_o (g / 32768) < 14 := pm_o_lt _ hmj hsk
        obtain ⟨cell, q1, q2, q3, q4⟩ := Rl.obj k.1 hc
        have hK := C.2.2.2.2.2.2.2.2.1.1 _ _ (pm_vcl_at _ hc)
        have hsel : (Cond.selects (pm_R (pm_o (g / 32768))) (pm_y (g / 32768)) (pm_y (g / 32768))).before args s = true := by rw [← m4]; exact sd_w C m6.2 rfl
        refine va_runV (C := pm_R (pm_o (g / 32768))) (b := b0 + b) (As := as.map (pm_mv b0 ad)) ⟨C.1, C.2.1, C.2.2.1, C.2.2.2.1, C.2.2.2.2.2.2.2.1⟩ M ⟨cb, sd_w C m6.1 rfl, hsel⟩ ⟨pm_Pc_blind b0 D cA ad h _, ⟨cell, q1, by rw [q3]; rfl, by rw [q2]; exact hK.2.1⟩, sd_pre C Rl S (.ref b :: as)⟩ rfl (by rw [List.length_map]; exact e2) hls ?_ (lv_room (sd_sum hok.1)) hd hcs
        show st.map (pm_mv b0 ad) = _
        rw [e1, List.map_append, List.map_reverse]
        rfl
    case h_2 => exact k.elim
  case invokespecial g =>
    obtain rfl := sd_len (n := 3) (by decide) hln
    simp only [pm_lk, Bool.and_eq_true] at hlk
    simp only [pm_ex] at k; split at k
    case h_1 as b rest heq =>
      obtain ⟨e1, e2⟩ := sd_pad heq
      cases hok : (pm_rok rest && pm_aok (pm_L (g / 32768)) (.ref b :: as)) with
      | false => rw [hok] at k; exact k.elim
      | true =>
        rw [hok] at k
        simp only [Bool.and_eq_true] at hok
        have hmj : g / 32768 < 180 := by
          have := hlk.2
          simp only [pm_callok, Bool.and_eq_true] at this
          exact Nat.le_of_ble_eq_true this.1.1.2
        refine sd_callP (as := .ref b :: as) (rest := rest) hmj rfl hok.2 k.2 (fun b0 D cA ad p l e R s m args below meth c H locs cells slots mc ms ls Qc C Rl hls hR S hcs M => ?_)
        obtain ⟨cb, -, hsk⟩ := sd_cb (mc := mc) (ms := ms) C hlk.1.1 pm_il_ok hlk.1.2 hlk.2 ⟨Nat.le_of_eq hR.1.symm, Nat.le_of_eq hR.2.symm⟩
        obtain ⟨m1, m2, m3, m4, m5, m6⟩ := pm_m_ok _ hmj
        rw [hsk] at m6
        rw [m6.2.2] at cb
        refine va_runI (b := b0 + b) (As := as.map (pm_mv b0 ad)) ⟨C.1, C.2.1, C.2.2.1, C.2.2.2.1, C.2.2.2.2.2.2.2.1⟩ M ⟨cb, m6.2.1, sd_w C m6.1 rfl⟩ ⟨pm_Pc_blind b0 D cA ad h _, sd_pre C Rl S (.ref b :: as)⟩ rfl (by rw [List.length_map]; exact e2) hls ?_ (lv_room (sd_sum hok.1)) hd hcs
        show st.map (pm_mv b0 ad) = _
        rw [e1, List.map_append, List.map_reverse]
        rfl
    case h_2 => exact k.elim
  case invokestatic g =>
    obtain rfl := sd_len (n := 3) (by decide) hln
    simp only [pm_lk, Bool.and_eq_true] at hlk
    simp only [pm_ex] at k; split at k
    case h_1 as rest heq =>
      obtain ⟨e1, e2⟩ := sd_pad heq
      cases hok : (pm_rok rest && pm_aok (pm_L (g / 32768)) as) with
      | false => rw [hok] at k; exact k.elim
      | true =>
        rw [hok] at k
        simp only [Bool.and_eq_true] at hok
        have hmj : g / 32768 < 180 := by
          have := hlk.2
          simp only [pm_callok, Bool.and_eq_true] at this
          exact Nat.le_of_ble_eq_true this.1.1.2
        refine sd_callP (as := as) (rest := rest) hmj rfl hok.2 k.2 (fun b0 D cA ad p l e R s m args below meth c H locs cells slots mc ms ls Qc C Rl hls hR S hcs M => ?_)
        obtain ⟨cb, -, hsk⟩ := sd_cb (mc := mc) (ms := ms) C hlk.1.1 pm_sl_ok hlk.1.2 hlk.2 ⟨Nat.le_of_eq hR.1.symm, Nat.le_of_eq hR.2.symm⟩
        obtain ⟨m1, m2, m3, m4, m5, m6⟩ := pm_m_ok _ hmj
        rw [hsk] at m6
        refine va_runS (As := as.map (pm_mv b0 ad)) ⟨C.1, C.2.1, C.2.2.1, C.2.2.2.1, C.2.2.2.2.2.2.2.1⟩ M ⟨cb, sd_w C m6 rfl⟩ ⟨pm_Pc_blind b0 D cA ad h _, sd_pre C Rl S as⟩ rfl (by rw [List.length_map]; exact e2) hls ?_ (lv_room (sd_sum hok.1)) hd hcs
        show st.map (pm_mv b0 ad) = _
        rw [e1, List.map_append, List.map_reverse]
    case h_2 => exact k.elim
  case getstatic g =>
    obtain rfl := sd_len (n := 3) (by decide) hln
    simp only [pm_ex] at k; split at k
    case h_1 r9 =>
      cases hok : pm_rok r9 with
      | false => rw [hok] at k; exact k.elim
      | true => rw [hok] at k; exact sd_mvP k (fun _ _ _ _ _ _ _ _ _ _ _ _ _ _ _ _ _ _ _ _ C R hls hR _ K => sd_obj C hls hlk hd ⟨Nat.le_of_eq hR.1.symm, Nat.le_of_eq hR.2.symm⟩ hok K)
    case h_2 => exact k.elim
  case fload g =>
    obtain rfl := sd_len (n := 3) (by decide) hln
    simp only [pm_ex] at k; split at k
    case h_1 r9 =>
      cases hok : pm_rok r9 with
      | false => rw [hok] at k; exact k.elim
      | true => rw [hok] at k; exact sd_mvP k (fun _ _ _ _ _ _ _ _ _ _ _ _ _ _ _ _ _ _ _ _ C R hls hR hcs K => sd_mx C hls hlk hd ⟨Nat.le_of_eq hR.1.symm, Nat.le_of_eq hR.2.symm⟩ hcs hok K)
    case h_2 => exact k.elim
  case dload g =>
    obtain rfl := sd_len (n := 3) (by decide) hln
    simp only [pm_ex] at k; split at k
    case h_1 r9 =>
      cases hok : pm_rok r9 with
      | false => rw [hok] at k; exact k.elim
      | true => rw [hok] at k; exact sd_mvP k (fun _ _ _ _ _ _ _ _ _ _ _ _ _ _ _ _ _ _ _ _ C R hls hR hcs K => sd_mn C hls hlk hd ⟨Nat.le_of_eq hR.1.symm, Nat.le_of_eq hR.2.symm⟩ hcs hok K)
    case h_2 => exact k.elim
  case fstore g =>
    obtain rfl := sd_len (n := 3) (by decide) hln
    simp only [pm_ex] at k; split at k
    case h_1 r9 =>
      cases hok : pm_rok r9 with
      | false => rw [hok] at k; exact k.elim
      | true => rw [hok] at k; exact sd_mvP k (fun _ _ _ _ _ _ _ _ _ _ _ _ _ _ _ _ _ _ _ _ C R hls hR hcs K => sd_ma C hls hlk hd ⟨Nat.le_of_eq hR.1.symm, Nat.le_of_eq hR.2.symm⟩ hcs hok K)
    case h_2 => exact k.elim
  case invokedynamic g =>
    obtain rfl := sd_len (n := 3) (by decide) hln
    simp only [pm_ex] at k; split at k
    case h_1 n dp b sp a r9 =>
      cases hok : pm_rok r9 with
      | false => rw [hok] at k; exact k.elim
      | true =>
        rw [hok] at k
        obtain ⟨⟨g1, g2, g3, g4, g5, g6, g7⟩, k2⟩ := k
        exact sd_wrP (by rfl) (by rfl) k2 (fun _ _ _ _ _ _ _ _ _ _ _ _ _ _ _ _ _ _ _ _ C R hls hR S K => sd_copy C R S hls hlk hd g1 g2 g3 g4 g5 g6 g7 ⟨Nat.le_of_eq hR.1.symm, Nat.le_of_eq hR.2.symm⟩ hok K)
    case h_2 => exact k.elim
  case putstatic g =>
    obtain rfl := sd_len (n := 3) (by decide) hln
    simp only [pm_lk, Bool.and_eq_true] at hlk
    obtain ⟨⟨⟨w1, w2⟩, w3⟩, w4⟩ := hlk
    obtain rfl : g = 310 := Nat.eq_of_beq_eq_true w1
    simp only [pm_ex] at k; split at k
    case h_1 a r9 =>
      cases hok : pm_rok r9 with
      | false => rw [hok] at k; exact k.elim
      | true =>
        rw [hok] at k
        obtain ⟨⟨g1, g2⟩, k2⟩ := k
        exact sd_alP (z := zN h a) (by rfl) (by rfl) k2 (fun _ _ _ _ _ _ _ _ _ _ _ _ _ _ _ _ _ _ _ _ C R hls hR S h1 h2 K => sd_clone C R S hls (Nat.eq_of_beq_eq_true w2) hd g1 g2 ⟨by rw [hR.1]; exact Nat.le_of_ble_eq_true w3, by rw [hR.2]; exact Nat.le_of_ble_eq_true w4⟩ hok h1 h2 K)
    case h_2 => exact k.elim
  case checkcast g =>
    obtain rfl := sd_len (n := 3) (by decide) hln
    simp only [pm_lk, Bool.and_eq_true] at hlk
    obtain rfl : g = 311 := Nat.eq_of_beq_eq_true hlk.1
    simp only [pm_ex] at k; split at k
    case h_1 => exact sd_mvP k.2 (fun _ _ _ _ _ _ _ _ _ _ _ _ _ _ _ _ _ _ _ _ C R _ _ _ K => sd_cast C R (Nat.eq_of_beq_eq_true hlk.2) hd k.1 K)
    case h_2 => exact k.elim
  case instanceof g =>
    obtain rfl := sd_len (n := 3) (by decide) hln
    simp only [pm_lk, Bool.and_eq_true] at hlk
    obtain ⟨⟨⟨w1, w2⟩, w3⟩, w4⟩ := hlk
    obtain rfl : g = 45 := Nat.eq_of_beq_eq_true w1
    simp only [pm_ex] at k; split at k
    case h_1 i r9 =>
      cases hok : pm_rok r9 with
      | false => rw [hok] at k; exact k.elim
      | true =>
        rw [hok] at k
        obtain ⟨g1, k2⟩ := k
        exact sd_wrQ (by rfl) (by rfl) k2 (fun _ _ _ _ _ _ _ _ _ _ _ _ _ _ _ _ _ _ _ _ C R hls hR hcs S K => sd_slen C S hls (Nat.eq_of_beq_eq_true w2) hd ⟨by rw [hR.1]; exact Nat.le_of_ble_eq_true w3, by rw [hR.2]; exact Nat.le_of_ble_eq_true w4⟩ hok hcs g1 (fun locs1 S1 => K _ locs1 R S1))
    case h_2 => exact k.elim
  case invokeinterface g g9 =>
    obtain rfl := sd_len (n := 3) (by decide) hln
    simp only [pm_lk, Bool.and_eq_true] at hlk
    obtain ⟨⟨⟨w1, w2⟩, w3⟩, w4⟩ := hlk
    obtain rfl : g = 51 := Nat.eq_of_beq_eq_true w1
    simp only [pm_ex] at k; split at k
    case h_1 x i r9 =>
      cases hok : pm_rok r9 with
      | false => rw [hok] at k; exact k.elim
      | true =>
        rw [hok] at k
        obtain ⟨⟨g1, g2⟩, k2⟩ := k
        exact sd_wrQ (by rfl) (by rfl) k2 (fun _ _ _ _ _ _ _ _ _ _ _ _ _ _ _ _ _ _ _ _ C R hls hR hcs S K => sd_sch C S hls (Nat.eq_of_beq_eq_true w2) hd ⟨by rw [hR.1]; exact Nat.le_of_ble_eq_true w3, by rw [hR.2]; exact Nat.le_of_ble_eq_true w4⟩ hok hcs g1 g2 (fun locs1 S1 => K _ locs1 R S1))
    case h_2 => exact k.elim
  case ireturn =>
    obtain rfl := sd_len (n := 1) (by decide) hln
    have hr : pm_r mi = some .int := by
      simp only [pm_lk] at hlk
      split at hlk
      · assumption
      · cases hlk
    simp only [pm_ex] at k; split at k
    case h_1 x =>
      obtain ⟨-, rfl, rfl⟩ := k
      exact sd_retP (fun _ _ _ _ _ _ _ _ _ _ _ _ _ _ _ _ _ _ _ _ C S hq => W.iret C.1 C.2.1 (by rw [C.2.2.2.2.1, hr]) hq S.2.2 hd C.2.2.2.2.2.1)
    case h_2 => exact k.elim
  case freturn =>
    obtain rfl := sd_len (n := 1) (by decide) hln
    have hr : pm_r mi = some .boolean := by
      simp only [pm_lk] at hlk
      split at hlk
      · assumption
      · cases hlk
    simp only [pm_ex] at k; split at k
    case h_1 x =>
      obtain ⟨h01, rfl, rfl⟩ := k
      exact sd_retP (fun _ _ _ _ _ _ _ _ _ _ _ _ _ _ _ _ _ _ _ _ C S hq => W.zret C.1 C.2.1 (by rw [C.2.2.2.2.1, hr]) (by rcases h01 with q | q <;> rw [q] <;> decide) hq S.2.2 hd C.2.2.2.2.2.1)
    case h_2 => exact k.elim
  case lreturn =>
    obtain rfl := sd_len (n := 1) (by decide) hln
    have hr : pm_r mi = some .long := by
      simp only [pm_lk] at hlk
      split at hlk
      · assumption
      · cases hlk
    simp only [pm_ex] at k; split at k
    case h_1 x =>
      obtain ⟨-, rfl, rfl⟩ := k
      exact sd_retP (fun _ _ _ _ _ _ _ _ _ _ _ _ _ _ _ _ _ _ _ _ C S hq => W.lret C.1 C.2.1 (by rw [C.2.2.2.2.1, hr]) hq S.2.2 hd C.2.2.2.2.2.1)
    case h_2 => exact k.elim
  case return_ =>
    obtain rfl := sd_len (n := 1) (by decide) hln
    have hr : pm_r mi = none := by
      simp only [pm_lk] at hlk
      split at hlk
      · assumption
      · cases hlk
    simp only [pm_ex] at k; split at k
    case h_1 =>
      obtain ⟨-, rfl, rfl⟩ := k
      exact sd_retP (fun _ _ _ _ _ _ _ _ _ _ _ _ _ _ _ _ _ _ _ _ C S hq => W.vret C.1 C.2.1 (by rw [C.2.2.2.2.1, hr]) hq S.2.2 hd C.2.2.2.2.2.1)
    case h_2 => exact k.elim
  case areturn =>
    obtain rfl := sd_len (n := 1) (by decide) hln
    obtain ⟨rt, hr, hrt⟩ : ∃ rt, pm_r mi = some rt ∧ ((∃ n, rt = .object n) ∨ ∃ t, rt = .array t) := by
      simp only [pm_lk] at hlk
      split at hlk
      case h_1 n e9 => exact ⟨_, e9, Or.inl ⟨n, rfl⟩⟩
      case h_2 n e9 => exact ⟨_, e9, Or.inr ⟨n, rfl⟩⟩
      case h_3 => cases hlk
    simp only [pm_ex] at k; split at k
    case h_1 x =>
      obtain ⟨-, rfl, rfl⟩ := k
      exact sd_retP (fun _ _ _ _ _ _ _ _ _ _ _ _ _ _ _ _ _ _ _ _ C S hq => W.aret C.1 C.2.1 (by rw [C.2.2.2.2.1, hr]) hrt (Or.inr ⟨_, rfl⟩) hq S.2.2 hd C.2.2.2.2.2.1)
    case h_2 =>
      obtain ⟨-, rfl, rfl⟩ := k
      exact sd_retP (fun _ _ _ _ _ _ _ _ _ _ _ _ _ _ _ _ _ _ _ _ C S hq => W.aret C.1 C.2.1 (by rw [C.2.2.2.2.1, hr]) hrt (Or.inl rfl) hq S.2.2 hd C.2.2.2.2.2.1)
    case h_3 => exact k.elim
  all_goals exact sd_opQ hlk hln hd k
theorem pm_sound : pm_cld pm_P := by
  intro mi pc L st h r h' k
  unfold pm_stp at k
  cases hft : pm_ft mi pc with
  | none => rw [hft] at k; exact k.elim
  | some x =>
    obtain ⟨ins, len⟩ := x
    rw [hft] at k
    obtain ⟨hm, hp⟩ := pm_ft_lt hft
    have hc := pm_chk_all mi pc hm hp
    unfold pm_chk at hc
    rw [hft] at hc
    simp only [Bool.and_eq_true, decide_eq_true_eq, Bool.or_eq_true] at hc
    obtain ⟨⟨hd, hln⟩, hlk⟩ := hc
    exact sd_step k hm hd (hln.imp Nat.eq_of_beq_eq_true Nat.eq_of_beq_eq_true) hlk
/-- the pure machine's end is the machine's -/
theorem pm_run_P {mi pc : Nat} {L : pm_Lo} {st : List Value} {h : pm_H} {r : Option Value} {h' : pm_H} (k : pm_Run mi pc L st h r h') : pm_P mi pc L st h r h' := k pm_P pm_sound

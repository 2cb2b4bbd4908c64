def pm_tyg (t : FieldType) : Bool := match t with
  | .int | .boolean | .long | .object _ | .array _ => true
  | _ => false
set_option maxRecDepth 20000 in
theorem pm_lay0 : ∀ k ∈ ([0, 1] : List Nat), u_lay RX0 TX0 k ∈ lw_tbl := List.forall_mem_cons.mpr ⟨pm_tb1 (i := 175) rfl, List.forall_mem_cons.mpr ⟨pm_tb1 (i := 177) rfl, fun _ h => absurd h List.not_mem_nil⟩⟩
theorem pm_in0 : ∀ w ∈ u_ws RX0 TX0 2, w ∈ lw_tbl := fun w h => by
  obtain ⟨k, hk, rfl⟩ := List.mem_map.mp h
  exact pm_lay0 k hk
set_option maxRecDepth 20000 in
theorem pm_lay1 : ∀ k ∈ ([0, 1, 2, 3] : List Nat), u_lay RX1 TX1 k ∈ lw_tbl := List.forall_mem_cons.mpr ⟨pm_tb1 (i := 158) rfl, List.forall_mem_cons.mpr ⟨pm_tb1 (i := 160) rfl, List.forall_mem_cons.mpr ⟨pm_tb1 (i := 162) rfl, List.forall_mem_cons.mpr ⟨pm_tb1 (i := 164) rfl, fun _ h => absurd h List.not_mem_nil⟩⟩⟩⟩
theorem pm_in1 : ∀ w ∈ u_ws RX1 TX1 4, w ∈ lw_tbl := fun w h => by
  obtain ⟨k, hk, rfl⟩ := List.mem_map.mp h
  exact pm_lay1 k hk
set_option maxRecDepth 20000 in
theorem pm_lay2 : ∀ k ∈ ([0, 1, 2, 3] : List Nat), u_lay RX2 TX2 k ∈ lw_tbl := List.forall_mem_cons.mpr ⟨pm_tb1 (i := 124) rfl, List.forall_mem_cons.mpr ⟨pm_tb1 (i := 126) rfl, List.forall_mem_cons.mpr ⟨pm_tb1 (i := 128) rfl, List.forall_mem_cons.mpr ⟨pm_tb1 (i := 130) rfl, fun _ h => absurd h List.not_mem_nil⟩⟩⟩⟩
theorem pm_in2 : ∀ w ∈ u_ws RX2 TX2 4, w ∈ lw_tbl := fun w h => by
  obtain ⟨k, hk, rfl⟩ := List.mem_map.mp h
  exact pm_lay2 k hk
set_option maxRecDepth 20000 in
theorem pm_lay3 : ∀ k ∈ ([0, 1, 2] : List Nat), u_lay RX3 TX3 k ∈ lw_tbl := List.forall_mem_cons.mpr ⟨pm_tb3 (i := 65) rfl, List.forall_mem_cons.mpr ⟨pm_tb3 (i := 67) rfl, List.forall_mem_cons.mpr ⟨pm_tb3 (i := 69) rfl, fun _ h => absurd h List.not_mem_nil⟩⟩⟩
theorem pm_in3 : ∀ w ∈ u_ws RX3 TX3 3, w ∈ lw_tbl := fun w h => by
  obtain ⟨k, hk, rfl⟩ := List.mem_map.mp h
  exact pm_lay3 k hk
set_option maxRecDepth 20000 in
theorem pm_lay4 : ∀ k ∈ ([0, 1, 2, 3, 4, 5, 6] : List Nat), u_lay RX4 TX4 k ∈ lw_tbl := List.forall_mem_cons.mpr ⟨pm_tb1 (i := 196) rfl, List.forall_mem_cons.mpr ⟨pm_tb1 (i := 198) rfl, List.forall_mem_cons.mpr ⟨pm_tb1 (i := 200) rfl, List.forall_mem_cons.mpr ⟨pm_tb1 (i := 202) rfl, List.forall_mem_cons.mpr ⟨pm_tb1 (i := 204) rfl, List.forall_mem_cons.mpr ⟨pm_tb1 (i := 206) rfl, List.forall_mem_cons.mpr ⟨pm_tb1 (i := 208) rfl, fun _ h => absurd h List.not_mem_nil⟩⟩⟩⟩⟩⟩⟩
theorem pm_in4 : ∀ w ∈ u_ws RX4 TX4 7, w ∈ lw_tbl := fun w h => by
  obtain ⟨k, hk, rfl⟩ := List.mem_map.mp h
  exact pm_lay4 k hk
set_option maxRecDepth 20000 in
theorem pm_lay5 : ∀ k ∈ ([0, 1, 2, 3] : List Nat), u_lay RX5 TX5 k ∈ lw_tbl := List.forall_mem_cons.mpr ⟨pm_tb3 (i := 102) rfl, List.forall_mem_cons.mpr ⟨pm_tb3 (i := 104) rfl, List.forall_mem_cons.mpr ⟨pm_tb3 (i := 106) rfl, List.forall_mem_cons.mpr ⟨pm_tb3 (i := 108) rfl, fun _ h => absurd h List.not_mem_nil⟩⟩⟩⟩
theorem pm_in5 : ∀ w ∈ u_ws RX5 TX5 4, w ∈ lw_tbl := fun w h => by
  obtain ⟨k, hk, rfl⟩ := List.mem_map.mp h
  exact pm_lay5 k hk
set_option maxRecDepth 20000 in
theorem pm_lay6 : ∀ k ∈ ([0, 1, 2, 3] : List Nat), u_lay RX6 TX6 k ∈ lw_tbl := List.forall_mem_cons.mpr ⟨pm_tb1 (i := 98) rfl, List.forall_mem_cons.mpr ⟨pm_tb1 (i := 100) rfl, List.forall_mem_cons.mpr ⟨pm_tb1 (i := 102) rfl, List.forall_mem_cons.mpr ⟨pm_tb1 (i := 104) rfl, fun _ h => absurd h List.not_mem_nil⟩⟩⟩⟩
theorem pm_in6 : ∀ w ∈ u_ws RX6 TX6 4, w ∈ lw_tbl := fun w h => by
  obtain ⟨k, hk, rfl⟩ := List.mem_map.mp h
  exact pm_lay6 k hk
set_option maxRecDepth 20000 in
theorem pm_lay7 : ∀ k ∈ ([0, 1, 2, 3, 4, 5] : List Nat), u_lay RX7 TX7 k ∈ lw_tbl := List.forall_mem_cons.mpr ⟨pm_tb1 (i := 224) rfl, List.forall_mem_cons.mpr ⟨pm_tb1 (i := 226) rfl, List.forall_mem_cons.mpr ⟨pm_tb1 (i := 228) rfl, List.forall_mem_cons.mpr ⟨pm_tb1 (i := 230) rfl, List.forall_mem_cons.mpr ⟨pm_tb1 (i := 232) rfl, List.forall_mem_cons.mpr ⟨pm_tb1 (i := 234) rfl, fun _ h => absurd h List.not_mem_nil⟩⟩⟩⟩⟩⟩
theorem pm_in7 : ∀ w ∈ u_ws RX7 TX7 6, w ∈ lw_tbl := fun w h => by
  obtain ⟨k, hk, rfl⟩ := List.mem_map.mp h
  exact pm_lay7 k hk
set_option maxRecDepth 20000 in
theorem pm_lay8 : ∀ k ∈ ([0, 1] : List Nat), u_lay RX8 TX8 k ∈ lw_tbl := List.forall_mem_cons.mpr ⟨pm_tb1 (i := 143) rfl, List.forall_mem_cons.mpr ⟨pm_tb1 (i := 145) rfl, fun _ h => absurd h List.not_mem_nil⟩⟩
theorem pm_in8 : ∀ w ∈ u_ws RX8 TX8 2, w ∈ lw_tbl := fun w h => by
  obtain ⟨k, hk, rfl⟩ := List.mem_map.mp h
  exact pm_lay8 k hk
set_option maxRecDepth 20000 in
theorem pm_lay9 : ∀ k ∈ ([0, 1, 2] : List Nat), u_lay RX9 TX9 k ∈ lw_tbl := List.forall_mem_cons.mpr ⟨pm_tb3 (i := 23) rfl, List.forall_mem_cons.mpr ⟨pm_tb3 (i := 25) rfl, List.forall_mem_cons.mpr ⟨pm_tb3 (i := 27) rfl, fun _ h => absurd h List.not_mem_nil⟩⟩⟩
theorem pm_in9 : ∀ w ∈ u_ws RX9 TX9 3, w ∈ lw_tbl := fun w h => by
  obtain ⟨k, hk, rfl⟩ := List.mem_map.mp h
  exact pm_lay9 k hk
set_option maxRecDepth 20000 in
theorem pm_lay10 : ∀ k ∈ ([0, 1, 2, 3, 4, 5] : List Nat), u_lay RX10 TX10 k ∈ lw_tbl := List.forall_mem_cons.mpr ⟨pm_tb1 (i := 51) rfl, List.forall_mem_cons.mpr ⟨pm_tb1 (i := 53) rfl, List.forall_mem_cons.mpr ⟨pm_tb1 (i := 55) rfl, List.forall_mem_cons.mpr ⟨pm_tb1 (i := 57) rfl, List.forall_mem_cons.mpr ⟨pm_tb1 (i := 59) rfl, List.forall_mem_cons.mpr ⟨pm_tb1 (i := 61) rfl, fun _ h => absurd h List.not_mem_nil⟩⟩⟩⟩⟩⟩
theorem pm_in10 : ∀ w ∈ u_ws RX10 TX10 6, w ∈ lw_tbl := fun w h => by
  obtain ⟨k, hk, rfl⟩ := List.mem_map.mp h
  exact pm_lay10 k hk
set_option maxRecDepth 20000 in
theorem pm_lay11 : ∀ k ∈ ([0, 1, 2, 3, 4] : List Nat), u_lay RX11 TX11 k ∈ lw_tbl := List.forall_mem_cons.mpr ⟨pm_tb1 (i := 79) rfl, List.forall_mem_cons.mpr ⟨pm_tb1 (i := 81) rfl, List.forall_mem_cons.mpr ⟨pm_tb1 (i := 83) rfl, List.forall_mem_cons.mpr ⟨pm_tb1 (i := 85) rfl, List.forall_mem_cons.mpr ⟨pm_tb1 (i := 87) rfl, fun _ h => absurd h List.not_mem_nil⟩⟩⟩⟩⟩
theorem pm_in11 : ∀ w ∈ u_ws RX11 TX11 5, w ∈ lw_tbl := fun w h => by
  obtain ⟨k, hk, rfl⟩ := List.mem_map.mp h
  exact pm_lay11 k hk
set_option maxRecDepth 20000 in
theorem pm_lay12 : ∀ k ∈ ([0, 1, 2, 3, 4, 5, 6, 7, 8, 9, 10, 11, 12] : List Nat), u_lay RX12 TX12 k ∈ lw_tbl := List.forall_mem_cons.mpr ⟨pm_tb2 (i := 10) rfl, List.forall_mem_cons.mpr ⟨pm_tb2 (i := 12) rfl, List.forall_mem_cons.mpr ⟨pm_tb2 (i := 14) rfl, List.forall_mem_cons.mpr ⟨pm_tb2 (i := 16) rfl, List.forall_mem_cons.mpr ⟨pm_tb2 (i := 18) rfl, List.forall_mem_cons.mpr ⟨pm_tb2 (i := 20) rfl, List.forall_mem_cons.mpr ⟨pm_tb2 (i := 22) rfl, List.forall_mem_cons.mpr ⟨pm_tb2 (i := 24) rfl, List.forall_mem_cons.mpr ⟨pm_tb2 (i := 26) rfl, List.forall_mem_cons.mpr ⟨pm_tb2 (i := 28) rfl, List.forall_mem_cons.mpr ⟨pm_tb2 (i := 30) rfl, List.forall_mem_cons.mpr ⟨pm_tb2 (i := 32) rfl, List.forall_mem_cons.mpr ⟨pm_tb2 (i := 34) rfl, fun _ h => absurd h List.not_mem_nil⟩⟩⟩⟩⟩⟩⟩⟩⟩⟩⟩⟩⟩
theorem pm_in12 : ∀ w ∈ u_ws RX12 TX12 13, w ∈ lw_tbl := fun w h => by
  obtain ⟨k, hk, rfl⟩ := List.mem_map.mp h
  exact pm_lay12 k hk
set_option maxRecDepth 20000 in
theorem pm_lay13 : ∀ k ∈ ([0, 1, 2, 3, 4, 5, 6, 7, 8, 9, 10, 11, 12, 13, 14, 15, 16, 17, 18, 19, 20, 21, 22, 23, 24, 25, 26, 27, 28, 29, 30, 31, 32, 33, 34, 35, 36, 37, 38, 39, 40, 41, 42, 43, 44, 45, 46, 47, 48, 49, 50, 51, 52, 53, 54, 55, 56, 57, 58, 59, 60, 61, 62, 63, 64] : List Nat), u_lay RX13 TX13 k ∈ lw_tbl := List.forall_mem_cons.mpr ⟨pm_tb4 (i := 216) rfl, List.forall_mem_cons.mpr ⟨pm_tb4 (i := 218) rfl, List.forall_mem_cons.mpr ⟨pm_tb4 (i := 220) rfl, List.forall_mem_cons.mpr ⟨pm_tb4 (i := 222) rfl, List.forall_mem_cons.mpr ⟨pm_tb4 (i := 224) rfl, List.forall_mem_cons.mpr ⟨pm_tb4 (i := 226) rfl, List.forall_mem_cons.mpr ⟨pm_tb4 (i := 228) rfl, List.forall_mem_cons.mpr ⟨pm_tb4 (i := 230) rfl, List.forall_mem_cons.mpr ⟨pm_tb4 (i := 232) rfl, List.forall_mem_cons.mpr ⟨pm_tb4 (i := 234) rfl, List.forall_mem_cons.mpr ⟨pm_tb4 (i := 236) rfl, List.forall_mem_cons.mpr ⟨pm_tb4 (i := 238) rfl, List.forall_mem_cons.mpr ⟨pm_tb5 (i := 0) rfl, List.forall_mem_cons.mpr ⟨pm_tb5 (i := 2) rfl, List.forall_mem_cons.mpr ⟨pm_tb5 (i := 4) rfl, List.forall_mem_cons.mpr ⟨pm_tb5 (i := 6) rfl, List.forall_mem_cons.mpr ⟨pm_tb5 (i := 8) rfl, List.forall_mem_cons.mpr ⟨pm_tb5 (i := 10) rfl, List.forall_mem_cons.mpr ⟨pm_tb5 (i := 12) rfl, List.forall_mem_cons.mpr ⟨pm_tb5 (i := 14) rfl, List.forall_mem_cons.mpr ⟨pm_tb5 (i := 16) rfl, List.forall_mem_cons.mpr ⟨pm_tb5 (i := 18) rfl, List.forall_mem_cons.mpr ⟨pm_tb5 (i := 20) rfl, List.forall_mem_cons.mpr ⟨pm_tb5 (i := 22) rfl, List.forall_mem_cons.mpr ⟨pm_tb5 (i := 24) rfl, List.forall_mem_cons.mpr ⟨pm_tb5 (i := 26) rfl, List.forall_mem_cons.mpr ⟨pm_tb5 (i := 28) rfl, List.forall_mem_cons.mpr ⟨pm_tb5 (i := 30) rfl, List.forall_mem_cons.mpr ⟨pm_tb5 (i := 32) rfl, List.forall_mem_cons.mpr ⟨pm_tb5 (i := 34) rfl, List.forall_mem_cons.mpr ⟨pm_tb5 (i := 36) rfl, List.forall_mem_cons.mpr ⟨pm_tb5 (i := 38) rfl, List.forall_mem_cons.mpr ⟨pm_tb5 (i := 40) rfl, List.forall_mem_cons.mpr ⟨pm_tb5 (i := 42) rfl, List.forall_mem_cons.mpr ⟨pm_tb5 (i := 44) rfl, List.forall_mem_cons.mpr ⟨pm_tb5 (i := 46) rfl, List.forall_mem_cons.mpr ⟨pm_tb5 (i := 48) rfl, List.forall_mem_cons.mpr ⟨pm_tb5 (i := 50) rfl, List.forall_mem_cons.mpr ⟨pm_tb5 (i := 52) rfl, List.forall_mem_cons.mpr ⟨pm_tb5 (i := 54) rfl, List.forall_mem_cons.mpr ⟨pm_tb5 (i := 56) rfl, List.forall_mem_cons.mpr ⟨pm_tb5 (i := 58) rfl, List.forall_mem_cons.mpr ⟨pm_tb5 (i := 60) rfl, List.forall_mem_cons.mpr ⟨pm_tb5 (i := 62) rfl, List.forall_mem_cons.mpr ⟨pm_tb5 (i := 64) rfl, List.forall_mem_cons.mpr ⟨pm_tb5 (i := 66) rfl, List.forall_mem_cons.mpr ⟨pm_tb5 (i := 68) rfl, List.forall_mem_cons.mpr ⟨pm_tb5 (i := 70) rfl, List.forall_mem_cons.mpr ⟨pm_tb5 (i := 72) rfl, List.forall_mem_cons.mpr ⟨pm_tb5 (i := 74) rfl, List.forall_mem_cons.mpr ⟨pm_tb5 (i := 76) rfl, List.forall_mem_cons.mpr ⟨pm_tb5 (i := 78) rfl, List.forall_mem_cons.mpr ⟨pm_tb5 (i := 80) rfl, List.forall_mem_cons.mpr ⟨pm_tb5 (i := 82) rfl, List.forall_mem_cons.mpr ⟨pm_tb5 (i := 84) rfl, List.forall_mem_cons.mpr ⟨pm_tb5 (i := 86) rfl, List.forall_mem_cons.mpr ⟨pm_tb5 (i := 88) rfl, List.forall_mem_cons.mpr ⟨pm_tb5 (i := 90) rfl, List.forall_mem_cons.mpr ⟨pm_tb5 (i := 92) rfl, List.forall_mem_cons.mpr ⟨pm_tb5 (i := 94) rfl, List.forall_mem_cons.mpr ⟨pm_tb5 (i := 96) rfl, List.forall_mem_cons.mpr ⟨pm_tb5 (i := 98) rfl, List.forall_mem_cons.mpr ⟨pm_tb5 (i := 100) rfl, List.forall_mem_cons.mpr ⟨pm_tb5 (i := 102) rfl, List.forall_mem_cons.mpr ⟨pm_tb5 (i := 104) rfl, fun _ h => absurd h List.not_mem_nil⟩⟩⟩⟩⟩⟩⟩⟩⟩⟩⟩⟩⟩⟩⟩⟩⟩⟩⟩⟩⟩⟩⟩⟩⟩⟩⟩⟩⟩⟩⟩⟩⟩⟩⟩⟩⟩⟩⟩⟩⟩⟩⟩⟩⟩⟩⟩⟩⟩⟩⟩⟩⟩⟩⟩⟩⟩⟩⟩⟩⟩⟩⟩⟩⟩
theorem pm_in13 : ∀ w ∈ u_ws RX13 TX13 65, w ∈ lw_tbl := fun w h => by
  obtain ⟨k, hk, rfl⟩ := List.mem_map.mp h
  exact pm_lay13 k hk
theorem pm_vcl_at (ci : Nat) (h : ci < 14) : pm_vcl[ci]? = some (pm_R ci, pm_Tf ci, pm_N ci) := match ci, h with
  | 0, _ => rfl
  | 1, _ => rfl
  | 2, _ => rfl
  | 3, _ => rfl
  | 4, _ => rfl
  | 5, _ => rfl
  | 6, _ => rfl
  | 7, _ => rfl
  | 8, _ => rfl
  | 9, _ => rfl
  | 10, _ => rfl
  | 11, _ => rfl
  | 12, _ => rfl
  | 13, _ => rfl
  | n + 14, h => absurd h (by omega)
theorem pm_in (ci : Nat) (h : ci < 14) : ∀ w ∈ u_ws (pm_R ci) (pm_Tf ci) (pm_N ci), w ∈ lw_tbl := match ci, h with
  | 0, _ => pm_in0
  | 1, _ => pm_in1
  | 2, _ => pm_in2
  | 3, _ => pm_in3
  | 4, _ => pm_in4
  | 5, _ => pm_in5
  | 6, _ => pm_in6
  | 7, _ => pm_in7
  | 8, _ => pm_in8
  | 9, _ => pm_in9
  | 10, _ => pm_in10
  | 11, _ => pm_in11
  | 12, _ => pm_in12
  | 13, _ => pm_in13
  | n + 14, h => absurd h (by omega)
theorem pm_tyok (ci : Nat) (h : ci < 14) : ∀ k, k < pm_N ci → parseFieldDescriptor (pm_Tf ci k).2.2.1 = some (pm_ty ci k) := match ci, h with
  | 0, _ => tyX0_ok
  | 1, _ => tyX1_ok
  | 2, _ => tyX2_ok
  | 3, _ => tyX3_ok
  | 4, _ => tyX4_ok
  | 5, _ => tyX5_ok
  | 6, _ => tyX6_ok
  | 7, _ => tyX7_ok
  | 8, _ => tyX8_ok
  | 9, _ => tyX9_ok
  | 10, _ => tyX10_ok
  | 11, _ => tyX11_ok
  | 12, _ => tyX12_ok
  | 13, _ => tyX13_ok
  | n + 14, h => absurd h (by omega)
theorem pm_nm (ci : Nat) (h : ci < 14) : ∀ a, a < pm_N ci → ∀ b, b < pm_N ci → a ≠ b → (pm_Tf ci a).2.1 ≠ (pm_Tf ci b).2.1 := match ci, h with
  | 0, _ => nmX0
  | 1, _ => nmX1
  | 2, _ => nmX2
  | 3, _ => nmX3
  | 4, _ => nmX4
  | 5, _ => nmX5
  | 6, _ => nmX6
  | 7, _ => nmX7
  | 8, _ => nmX8
  | 9, _ => nmX9
  | 10, _ => nmX10
  | 11, _ => nmX11
  | 12, _ => nmX12
  | 13, _ => nmX13
  | n + 14, h => absurd h (by omega)
theorem pm_own (ci : Nat) (h : ci < 14) : ∀ k, k < pm_N ci → (pm_Tf ci k).1 = pm_R ci := match ci, h with
  | 0, _ => by decide +kernel
  | 1, _ => by decide +kernel
  | 2, _ => by decide +kernel
  | 3, _ => by decide +kernel
  | 4, _ => by decide +kernel
  | 5, _ => by decide +kernel
  | 6, _ => by decide +kernel
  | 7, _ => by decide +kernel
  | 8, _ => by decide +kernel
  | 9, _ => by decide +kernel
  | 10, _ => by decide +kernel
  | 11, _ => by decide +kernel
  | 12, _ => by decide +kernel
  | 13, _ => by decide +kernel
  | n + 14, h => absurd h (by omega)
theorem pm_tygd (ci : Nat) (h : ci < 14) : ∀ k, k < pm_N ci → pm_tyg (pm_ty ci k) = true := match ci, h with
  | 0, _ => by decide +kernel
  | 1, _ => by decide +kernel
  | 2, _ => by decide +kernel
  | 3, _ => by decide +kernel
  | 4, _ => by decide +kernel
  | 5, _ => by decide +kernel
  | 6, _ => by decide +kernel
  | 7, _ => by decide +kernel
  | 8, _ => by decide +kernel
  | 9, _ => by decide +kernel
  | 10, _ => by decide +kernel
  | 11, _ => by decide +kernel
  | 12, _ => by decide +kernel
  | 13, _ => by decide +kernel
  | n + 14, h => absurd h (by omega)
theorem pm_arr_ws : Cond.arrayClass .int ∈ lw_tbl ∧ Cond.arrayClass .byte ∈ lw_tbl ∧ Cond.arrayClass .boolean ∈ lw_tbl := ⟨pm_tb1 (i := 90) rfl, pm_tb1 (i := 64) rfl, pm_tb5 (i := 107) rfl⟩
def pm_yO : MethodName := ⟨"java/lang/Object", "clone", "()Ljava/lang/Object;"⟩
def pm_yB : MethodName := ⟨"[B", "clone", "()Ljava/lang/Object;"⟩
theorem pm_cln_ws : Cond.methodLink RJ7 310 pm_yB ∈ lw_tbl ∧ Cond.sameMethod "[B" "java/lang/Object" "clone" "()Ljava/lang/Object;" ∈ lw_tbl ∧ Cond.native pm_yO ∈ lw_tbl ∧ Cond.instanceMethod pm_yO ∈ lw_tbl ∧ Cond.selects "[B" pm_yB pm_yO ∈ lw_tbl ∧ Cond.castable "[B" "java/lang/Cloneable" ∈ lw_tbl ∧ Cond.classLink RJ7 311 "[B" ∈ lw_tbl := ⟨pm_tb2 (i := 234) rfl, pm_tb2 (i := 235) rfl, pm_tb2 (i := 236) rfl, pm_tb2 (i := 237) rfl, pm_tb2 (i := 238) rfl, pm_tb2 (i := 239) rfl, pm_tb3 (i := 0) rfl⟩
theorem pm_cls_ne (ci : Nat) : pm_R ci ≠ "java/lang/invoke/MethodHandle" ∧ pm_R ci ≠ "java/lang/invoke/VarHandle" := by
  have h : ∀ q ∈ RX0 :: pm_cls, q ≠ "java/lang/invoke/MethodHandle" ∧ q ≠ "java/lang/invoke/VarHandle" := by decide +kernel
  refine h _ ?_
  unfold pm_R
  rw [List.getD_eq_getElem?_getD]
  cases e : pm_cls[ci]? with
  | none => exact List.mem_cons_self
  | some x => exact List.mem_cons_of_mem _ (List.mem_of_getElem? e)

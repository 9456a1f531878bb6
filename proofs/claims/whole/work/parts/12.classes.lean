/-! classes -/
theorem z_lays {C : String} {T : u_T} {N : Nat} (h : ∀ k, k < N → u_lay C T k ∈ z_tb) : ∀ w ∈ u_ws C T N, w ∈ z_tb := fun w hw => by
  obtain ⟨k, hk, rfl⟩ := List.mem_map.mp hw
  exact h k (List.mem_range.mp hk)
theorem wlX0_0 : u_lay RX0 TX0 0 ∈ z_tb := z_in (in_t2 (List.mem_of_getElem? (i := 35) rfl)) rfl
theorem wlX0_1 : u_lay RX0 TX0 1 ∈ z_tb := z_in (in_t2 (List.mem_of_getElem? (i := 37) rfl)) rfl
theorem wlX0_2 : u_lay RX0 TX0 2 ∈ z_tb := z_in (in_t2 (List.mem_of_getElem? (i := 39) rfl)) rfl
theorem wlX0_3 : u_lay RX0 TX0 3 ∈ z_tb := z_in (in_t2 (List.mem_of_getElem? (i := 41) rfl)) rfl
theorem wlX0_4 : u_lay RX0 TX0 4 ∈ z_tb := z_in (in_t2 (List.mem_of_getElem? (i := 43) rfl)) rfl
set_option maxRecDepth 100000 in
theorem wlX0 : ∀ k, k < 5 → u_lay RX0 TX0 k ∈ z_tb := fun k hk => match k, hk with
  | 0, _ => wlX0_0
  | 1, _ => wlX0_1
  | 2, _ => wlX0_2
  | 3, _ => wlX0_3
  | 4, _ => wlX0_4
  | k + 5, h => absurd h (by omega)
theorem clX0 : z_Cl 0 (RX0, TX0, 5) tyX0 := ⟨rfl, z_lays wlX0, tyX0_ok, nmX0⟩
theorem dfX0 : ∀ j, j < 5 → defaultValue (tyX0 j) = if z_isR 0 j = true then .null else .int 0 := by decide +kernel
theorem wlX1_0 : u_lay RX1 TX1 0 ∈ z_tb := z_in (in_t1 (List.mem_of_getElem? (i := 126) rfl)) rfl
theorem wlX1_1 : u_lay RX1 TX1 1 ∈ z_tb := z_in (in_t1 (List.mem_of_getElem? (i := 128) rfl)) rfl
theorem wlX1_2 : u_lay RX1 TX1 2 ∈ z_tb := z_in (in_t1 (List.mem_of_getElem? (i := 130) rfl)) rfl
theorem wlX1_3 : u_lay RX1 TX1 3 ∈ z_tb := z_in (in_t1 (List.mem_of_getElem? (i := 132) rfl)) rfl
theorem wlX1_4 : u_lay RX1 TX1 4 ∈ z_tb := z_in (in_t1 (List.mem_of_getElem? (i := 134) rfl)) rfl
set_option maxRecDepth 100000 in
theorem wlX1 : ∀ k, k < 5 → u_lay RX1 TX1 k ∈ z_tb := fun k hk => match k, hk with
  | 0, _ => wlX1_0
  | 1, _ => wlX1_1
  | 2, _ => wlX1_2
  | 3, _ => wlX1_3
  | 4, _ => wlX1_4
  | k + 5, h => absurd h (by omega)
theorem clX1 : z_Cl 1 (RX1, TX1, 5) tyX1 := ⟨rfl, z_lays wlX1, tyX1_ok, nmX1⟩
theorem dfX1 : ∀ j, j < 5 → defaultValue (tyX1 j) = if z_isR 1 j = true then .null else .int 0 := by decide +kernel
theorem wlX2_0 : u_lay RX2 TX2 0 ∈ z_tb := z_in (in_t1 (List.mem_of_getElem? (i := 210) rfl)) rfl
theorem wlX2_1 : u_lay RX2 TX2 1 ∈ z_tb := z_in (in_t1 (List.mem_of_getElem? (i := 212) rfl)) rfl
theorem wlX2_2 : u_lay RX2 TX2 2 ∈ z_tb := z_in (in_t1 (List.mem_of_getElem? (i := 214) rfl)) rfl
set_option maxRecDepth 100000 in
theorem wlX2 : ∀ k, k < 3 → u_lay RX2 TX2 k ∈ z_tb := fun k hk => match k, hk with
  | 0, _ => wlX2_0
  | 1, _ => wlX2_1
  | 2, _ => wlX2_2
  | k + 3, h => absurd h (by omega)
theorem clX2 : z_Cl 2 (RX2, TX2, 3) tyX2 := ⟨rfl, z_lays wlX2, tyX2_ok, nmX2⟩
theorem dfX2 : ∀ j, j < 3 → defaultValue (tyX2 j) = if z_isR 2 j = true then .null else .int 0 := by decide +kernel
theorem wlX3_0 : u_lay RX3 TX3 0 ∈ z_tb := z_in (in_t2 (List.mem_of_getElem? (i := 10) rfl)) rfl
theorem wlX3_1 : u_lay RX3 TX3 1 ∈ z_tb := z_in (in_t2 (List.mem_of_getElem? (i := 12) rfl)) rfl
theorem wlX3_2 : u_lay RX3 TX3 2 ∈ z_tb := z_in (in_t2 (List.mem_of_getElem? (i := 14) rfl)) rfl
theorem wlX3_3 : u_lay RX3 TX3 3 ∈ z_tb := z_in (in_t2 (List.mem_of_getElem? (i := 16) rfl)) rfl
theorem wlX3_4 : u_lay RX3 TX3 4 ∈ z_tb := z_in (in_t2 (List.mem_of_getElem? (i := 18) rfl)) rfl
set_option maxRecDepth 100000 in
theorem wlX3 : ∀ k, k < 5 → u_lay RX3 TX3 k ∈ z_tb := fun k hk => match k, hk with
  | 0, _ => wlX3_0
  | 1, _ => wlX3_1
  | 2, _ => wlX3_2
  | 3, _ => wlX3_3
  | 4, _ => wlX3_4
  | k + 5, h => absurd h (by omega)
theorem clX3 : z_Cl 3 (RX3, TX3, 5) tyX3 := ⟨rfl, z_lays wlX3, tyX3_ok, nmX3⟩
theorem dfX3 : ∀ j, j < 5 → defaultValue (tyX3 j) = if z_isR 3 j = true then .null else .int 0 := by decide +kernel
theorem wlX4_0 : u_lay RX4 TX4 0 ∈ z_tb := z_in (in_t2 (List.mem_of_getElem? (i := 61) rfl)) rfl
theorem wlX4_1 : u_lay RX4 TX4 1 ∈ z_tb := z_in (in_t2 (List.mem_of_getElem? (i := 63) rfl)) rfl
theorem wlX4_2 : u_lay RX4 TX4 2 ∈ z_tb := z_in (in_t2 (List.mem_of_getElem? (i := 65) rfl)) rfl
theorem wlX4_3 : u_lay RX4 TX4 3 ∈ z_tb := z_in (in_t2 (List.mem_of_getElem? (i := 67) rfl)) rfl
theorem wlX4_4 : u_lay RX4 TX4 4 ∈ z_tb := z_in (in_t2 (List.mem_of_getElem? (i := 69) rfl)) rfl
theorem wlX4_5 : u_lay RX4 TX4 5 ∈ z_tb := z_in (in_t2 (List.mem_of_getElem? (i := 71) rfl)) rfl
theorem wlX4_6 : u_lay RX4 TX4 6 ∈ z_tb := z_in (in_t2 (List.mem_of_getElem? (i := 73) rfl)) rfl
set_option maxRecDepth 100000 in
theorem wlX4 : ∀ k, k < 7 → u_lay RX4 TX4 k ∈ z_tb := fun k hk => match k, hk with
  | 0, _ => wlX4_0
  | 1, _ => wlX4_1
  | 2, _ => wlX4_2
  | 3, _ => wlX4_3
  | 4, _ => wlX4_4
  | 5, _ => wlX4_5
  | 6, _ => wlX4_6
  | k + 7, h => absurd h (by omega)
theorem clX4 : z_Cl 4 (RX4, TX4, 7) tyX4 := ⟨rfl, z_lays wlX4, tyX4_ok, nmX4⟩
theorem dfX4 : ∀ j, j < 7 → defaultValue (tyX4 j) = if z_isR 4 j = true then .null else .int 0 := by decide +kernel
theorem wlX5_0 : u_lay RX5 TX5 0 ∈ z_tb := z_in (in_t1 (List.mem_of_getElem? (i := 95) rfl)) rfl
theorem wlX5_1 : u_lay RX5 TX5 1 ∈ z_tb := z_in (in_t1 (List.mem_of_getElem? (i := 97) rfl)) rfl
theorem wlX5_2 : u_lay RX5 TX5 2 ∈ z_tb := z_in (in_t1 (List.mem_of_getElem? (i := 99) rfl)) rfl
theorem wlX5_3 : u_lay RX5 TX5 3 ∈ z_tb := z_in (in_t1 (List.mem_of_getElem? (i := 101) rfl)) rfl
theorem wlX5_4 : u_lay RX5 TX5 4 ∈ z_tb := z_in (in_t1 (List.mem_of_getElem? (i := 103) rfl)) rfl
theorem wlX5_5 : u_lay RX5 TX5 5 ∈ z_tb := z_in (in_t1 (List.mem_of_getElem? (i := 105) rfl)) rfl
theorem wlX5_6 : u_lay RX5 TX5 6 ∈ z_tb := z_in (in_t1 (List.mem_of_getElem? (i := 107) rfl)) rfl
set_option maxRecDepth 100000 in
theorem wlX5 : ∀ k, k < 7 → u_lay RX5 TX5 k ∈ z_tb := fun k hk => match k, hk with
  | 0, _ => wlX5_0
  | 1, _ => wlX5_1
  | 2, _ => wlX5_2
  | 3, _ => wlX5_3
  | 4, _ => wlX5_4
  | 5, _ => wlX5_5
  | 6, _ => wlX5_6
  | k + 7, h => absurd h (by omega)
theorem clX5 : z_Cl 5 (RX5, TX5, 7) tyX5 := ⟨rfl, z_lays wlX5, tyX5_ok, nmX5⟩
theorem dfX5 : ∀ j, j < 7 → defaultValue (tyX5 j) = if z_isR 5 j = true then .null else .int 0 := by decide +kernel
theorem wlX6_0 : u_lay RX6 TX6 0 ∈ z_tb := z_in (in_t1 (List.mem_of_getElem? (i := 41) rfl)) rfl
theorem wlX6_1 : u_lay RX6 TX6 1 ∈ z_tb := z_in (in_t1 (List.mem_of_getElem? (i := 43) rfl)) rfl
set_option maxRecDepth 100000 in
theorem wlX6 : ∀ k, k < 2 → u_lay RX6 TX6 k ∈ z_tb := fun k hk => match k, hk with
  | 0, _ => wlX6_0
  | 1, _ => wlX6_1
  | k + 2, h => absurd h (by omega)
theorem clX6 : z_Cl 6 (RX6, TX6, 2) tyX6 := ⟨rfl, z_lays wlX6, tyX6_ok, nmX6⟩
theorem dfX6 : ∀ j, j < 2 → defaultValue (tyX6 j) = if z_isR 6 j = true then .null else .int 0 := by decide +kernel
theorem wlX7_0 : u_lay RX7 TX7 0 ∈ z_tb := z_in (in_t1 (List.mem_of_getElem? (i := 178) rfl)) rfl
theorem wlX7_1 : u_lay RX7 TX7 1 ∈ z_tb := z_in (in_t1 (List.mem_of_getElem? (i := 180) rfl)) rfl
theorem wlX7_2 : u_lay RX7 TX7 2 ∈ z_tb := z_in (in_t1 (List.mem_of_getElem? (i := 182) rfl)) rfl
theorem wlX7_3 : u_lay RX7 TX7 3 ∈ z_tb := z_in (in_t1 (List.mem_of_getElem? (i := 184) rfl)) rfl
theorem wlX7_4 : u_lay RX7 TX7 4 ∈ z_tb := z_in (in_t1 (List.mem_of_getElem? (i := 186) rfl)) rfl
theorem wlX7_5 : u_lay RX7 TX7 5 ∈ z_tb := z_in (in_t1 (List.mem_of_getElem? (i := 188) rfl)) rfl
theorem wlX7_6 : u_lay RX7 TX7 6 ∈ z_tb := z_in (in_t1 (List.mem_of_getElem? (i := 190) rfl)) rfl
theorem wlX7_7 : u_lay RX7 TX7 7 ∈ z_tb := z_in (in_t1 (List.mem_of_getElem? (i := 192) rfl)) rfl
theorem wlX7_8 : u_lay RX7 TX7 8 ∈ z_tb := z_in (in_t1 (List.mem_of_getElem? (i := 194) rfl)) rfl
theorem wlX7_9 : u_lay RX7 TX7 9 ∈ z_tb := z_in (in_t1 (List.mem_of_getElem? (i := 196) rfl)) rfl
set_option maxRecDepth 100000 in
theorem wlX7 : ∀ k, k < 10 → u_lay RX7 TX7 k ∈ z_tb := fun k hk => match k, hk with
  | 0, _ => wlX7_0
  | 1, _ => wlX7_1
  | 2, _ => wlX7_2
  | 3, _ => wlX7_3
  | 4, _ => wlX7_4
  | 5, _ => wlX7_5
  | 6, _ => wlX7_6
  | 7, _ => wlX7_7
  | 8, _ => wlX7_8
  | 9, _ => wlX7_9
  | k + 10, h => absurd h (by omega)
theorem clX7 : z_Cl 7 (RX7, TX7, 10) tyX7 := ⟨rfl, z_lays wlX7, tyX7_ok, nmX7⟩
theorem dfX7 : ∀ j, j < 10 → defaultValue (tyX7 j) = if z_isR 7 j = true then .null else .int 0 := by decide +kernel
theorem wlX8_0 : u_lay RX8 TX8 0 ∈ z_tb := z_in (in_t1 (List.mem_of_getElem? (i := 63) rfl)) rfl
theorem wlX8_1 : u_lay RX8 TX8 1 ∈ z_tb := z_in (in_t1 (List.mem_of_getElem? (i := 65) rfl)) rfl
theorem wlX8_2 : u_lay RX8 TX8 2 ∈ z_tb := z_in (in_t1 (List.mem_of_getElem? (i := 67) rfl)) rfl
theorem wlX8_3 : u_lay RX8 TX8 3 ∈ z_tb := z_in (in_t1 (List.mem_of_getElem? (i := 69) rfl)) rfl
set_option maxRecDepth 100000 in
theorem wlX8 : ∀ k, k < 4 → u_lay RX8 TX8 k ∈ z_tb := fun k hk => match k, hk with
  | 0, _ => wlX8_0
  | 1, _ => wlX8_1
  | 2, _ => wlX8_2
  | 3, _ => wlX8_3
  | k + 4, h => absurd h (by omega)
theorem clX8 : z_Cl 8 (RX8, TX8, 4) tyX8 := ⟨rfl, z_lays wlX8, tyX8_ok, nmX8⟩
theorem dfX8 : ∀ j, j < 4 → defaultValue (tyX8 j) = if z_isR 8 j = true then .null else .int 0 := by decide +kernel
theorem wlX9_0 : u_lay RX9 TX9 0 ∈ z_tb := z_in (in_t2 (List.mem_of_getElem? (i := 96) rfl)) rfl
theorem wlX9_1 : u_lay RX9 TX9 1 ∈ z_tb := z_in (in_t2 (List.mem_of_getElem? (i := 98) rfl)) rfl
theorem wlX9_2 : u_lay RX9 TX9 2 ∈ z_tb := z_in (in_t2 (List.mem_of_getElem? (i := 100) rfl)) rfl
theorem wlX9_3 : u_lay RX9 TX9 3 ∈ z_tb := z_in (in_t2 (List.mem_of_getElem? (i := 102) rfl)) rfl
theorem wlX9_4 : u_lay RX9 TX9 4 ∈ z_tb := z_in (in_t2 (List.mem_of_getElem? (i := 104) rfl)) rfl
theorem wlX9_5 : u_lay RX9 TX9 5 ∈ z_tb := z_in (in_t2 (List.mem_of_getElem? (i := 106) rfl)) rfl
theorem wlX9_6 : u_lay RX9 TX9 6 ∈ z_tb := z_in (in_t2 (List.mem_of_getElem? (i := 108) rfl)) rfl
theorem wlX9_7 : u_lay RX9 TX9 7 ∈ z_tb := z_in (in_t2 (List.mem_of_getElem? (i := 110) rfl)) rfl
theorem wlX9_8 : u_lay RX9 TX9 8 ∈ z_tb := z_in (in_t2 (List.mem_of_getElem? (i := 112) rfl)) rfl
set_option maxRecDepth 100000 in
theorem wlX9 : ∀ k, k < 9 → u_lay RX9 TX9 k ∈ z_tb := fun k hk => match k, hk with
  | 0, _ => wlX9_0
  | 1, _ => wlX9_1
  | 2, _ => wlX9_2
  | 3, _ => wlX9_3
  | 4, _ => wlX9_4
  | 5, _ => wlX9_5
  | 6, _ => wlX9_6
  | 7, _ => wlX9_7
  | 8, _ => wlX9_8
  | k + 9, h => absurd h (by omega)
theorem clX9 : z_Cl 9 (RX9, TX9, 9) tyX9 := ⟨rfl, z_lays wlX9, tyX9_ok, nmX9⟩
theorem dfX9 : ∀ j, j < 9 → defaultValue (tyX9 j) = if z_isR 9 j = true then .null else .int 0 := by decide +kernel
theorem wlX10_0 : u_lay RX10 TX10 0 ∈ z_tb := z_in (in_t1 (List.mem_of_getElem? (i := 228) rfl)) rfl
theorem wlX10_1 : u_lay RX10 TX10 1 ∈ z_tb := z_in (in_t1 (List.mem_of_getElem? (i := 230) rfl)) rfl
theorem wlX10_2 : u_lay RX10 TX10 2 ∈ z_tb := z_in (in_t1 (List.mem_of_getElem? (i := 232) rfl)) rfl
set_option maxRecDepth 100000 in
theorem wlX10 : ∀ k, k < 3 → u_lay RX10 TX10 k ∈ z_tb := fun k hk => match k, hk with
  | 0, _ => wlX10_0
  | 1, _ => wlX10_1
  | 2, _ => wlX10_2
  | k + 3, h => absurd h (by omega)
theorem clX10 : z_Cl 10 (RX10, TX10, 3) tyX10 := ⟨rfl, z_lays wlX10, tyX10_ok, nmX10⟩
theorem dfX10 : ∀ j, j < 3 → defaultValue (tyX10 j) = if z_isR 10 j = true then .null else .int 0 := by decide +kernel
theorem wlX11_0 : u_lay RX11 TX11 0 ∈ z_tb := z_in (in_t2 (List.mem_of_getElem? (i := 128) rfl)) rfl
theorem wlX11_1 : u_lay RX11 TX11 1 ∈ z_tb := z_in (in_t2 (List.mem_of_getElem? (i := 130) rfl)) rfl
theorem wlX11_2 : u_lay RX11 TX11 2 ∈ z_tb := z_in (in_t2 (List.mem_of_getElem? (i := 132) rfl)) rfl
theorem wlX11_3 : u_lay RX11 TX11 3 ∈ z_tb := z_in (in_t2 (List.mem_of_getElem? (i := 134) rfl)) rfl
theorem wlX11_4 : u_lay RX11 TX11 4 ∈ z_tb := z_in (in_t2 (List.mem_of_getElem? (i := 136) rfl)) rfl
theorem wlX11_5 : u_lay RX11 TX11 5 ∈ z_tb := z_in (in_t2 (List.mem_of_getElem? (i := 138) rfl)) rfl
theorem wlX11_6 : u_lay RX11 TX11 6 ∈ z_tb := z_in (in_t2 (List.mem_of_getElem? (i := 140) rfl)) rfl
theorem wlX11_7 : u_lay RX11 TX11 7 ∈ z_tb := z_in (in_t2 (List.mem_of_getElem? (i := 142) rfl)) rfl
theorem wlX11_8 : u_lay RX11 TX11 8 ∈ z_tb := z_in (in_t2 (List.mem_of_getElem? (i := 144) rfl)) rfl
theorem wlX11_9 : u_lay RX11 TX11 9 ∈ z_tb := z_in (in_t2 (List.mem_of_getElem? (i := 146) rfl)) rfl
theorem wlX11_10 : u_lay RX11 TX11 10 ∈ z_tb := z_in (in_t2 (List.mem_of_getElem? (i := 148) rfl)) rfl
theorem wlX11_11 : u_lay RX11 TX11 11 ∈ z_tb := z_in (in_t2 (List.mem_of_getElem? (i := 150) rfl)) rfl
theorem wlX11_12 : u_lay RX11 TX11 12 ∈ z_tb := z_in (in_t2 (List.mem_of_getElem? (i := 152) rfl)) rfl
set_option maxRecDepth 100000 in
theorem wlX11 : ∀ k, k < 13 → u_lay RX11 TX11 k ∈ z_tb := fun k hk => match k, hk with
  | 0, _ => wlX11_0
  | 1, _ => wlX11_1
  | 2, _ => wlX11_2
  | 3, _ => wlX11_3
  | 4, _ => wlX11_4
  | 5, _ => wlX11_5
  | 6, _ => wlX11_6
  | 7, _ => wlX11_7
  | 8, _ => wlX11_8
  | 9, _ => wlX11_9
  | 10, _ => wlX11_10
  | 11, _ => wlX11_11
  | 12, _ => wlX11_12
  | k + 13, h => absurd h (by omega)
theorem clX11 : z_Cl 11 (RX11, TX11, 13) tyX11 := ⟨rfl, z_lays wlX11, tyX11_ok, nmX11⟩
theorem dfX11 : ∀ j, j < 13 → defaultValue (tyX11 j) = if z_isR 11 j = true then .null else .int 0 := by decide +kernel
theorem wlX12_0 : u_lay RX12 TX12 0 ∈ z_tb := z_in (in_t6 (List.mem_of_getElem? (i := 137) rfl)) rfl
theorem wlX12_1 : u_lay RX12 TX12 1 ∈ z_tb := z_in (in_t6 (List.mem_of_getElem? (i := 139) rfl)) rfl
theorem wlX12_2 : u_lay RX12 TX12 2 ∈ z_tb := z_in (in_t6 (List.mem_of_getElem? (i := 141) rfl)) rfl
theorem wlX12_3 : u_lay RX12 TX12 3 ∈ z_tb := z_in (in_t6 (List.mem_of_getElem? (i := 143) rfl)) rfl
theorem wlX12_4 : u_lay RX12 TX12 4 ∈ z_tb := z_in (in_t6 (List.mem_of_getElem? (i := 145) rfl)) rfl
theorem wlX12_5 : u_lay RX12 TX12 5 ∈ z_tb := z_in (in_t6 (List.mem_of_getElem? (i := 147) rfl)) rfl
theorem wlX12_6 : u_lay RX12 TX12 6 ∈ z_tb := z_in (in_t6 (List.mem_of_getElem? (i := 149) rfl)) rfl
theorem wlX12_7 : u_lay RX12 TX12 7 ∈ z_tb := z_in (in_t6 (List.mem_of_getElem? (i := 151) rfl)) rfl
theorem wlX12_8 : u_lay RX12 TX12 8 ∈ z_tb := z_in (in_t6 (List.mem_of_getElem? (i := 153) rfl)) rfl
theorem wlX12_9 : u_lay RX12 TX12 9 ∈ z_tb := z_in (in_t6 (List.mem_of_getElem? (i := 155) rfl)) rfl
theorem wlX12_10 : u_lay RX12 TX12 10 ∈ z_tb := z_in (in_t6 (List.mem_of_getElem? (i := 157) rfl)) rfl
theorem wlX12_11 : u_lay RX12 TX12 11 ∈ z_tb := z_in (in_t6 (List.mem_of_getElem? (i := 159) rfl)) rfl
theorem wlX12_12 : u_lay RX12 TX12 12 ∈ z_tb := z_in (in_t6 (List.mem_of_getElem? (i := 161) rfl)) rfl
theorem wlX12_13 : u_lay RX12 TX12 13 ∈ z_tb := z_in (in_t6 (List.mem_of_getElem? (i := 163) rfl)) rfl
theorem wlX12_14 : u_lay RX12 TX12 14 ∈ z_tb := z_in (in_t6 (List.mem_of_getElem? (i := 165) rfl)) rfl
theorem wlX12_15 : u_lay RX12 TX12 15 ∈ z_tb := z_in (in_t6 (List.mem_of_getElem? (i := 167) rfl)) rfl
theorem wlX12_16 : u_lay RX12 TX12 16 ∈ z_tb := z_in (in_t6 (List.mem_of_getElem? (i := 169) rfl)) rfl
theorem wlX12_17 : u_lay RX12 TX12 17 ∈ z_tb := z_in (in_t6 (List.mem_of_getElem? (i := 171) rfl)) rfl
theorem wlX12_18 : u_lay RX12 TX12 18 ∈ z_tb := z_in (in_t6 (List.mem_of_getElem? (i := 173) rfl)) rfl
theorem wlX12_19 : u_lay RX12 TX12 19 ∈ z_tb := z_in (in_t6 (List.mem_of_getElem? (i := 175) rfl)) rfl
theorem wlX12_20 : u_lay RX12 TX12 20 ∈ z_tb := z_in (in_t6 (List.mem_of_getElem? (i := 177) rfl)) rfl
theorem wlX12_21 : u_lay RX12 TX12 21 ∈ z_tb := z_in (in_t6 (List.mem_of_getElem? (i := 179) rfl)) rfl
theorem wlX12_22 : u_lay RX12 TX12 22 ∈ z_tb := z_in (in_t6 (List.mem_of_getElem? (i := 181) rfl)) rfl
theorem wlX12_23 : u_lay RX12 TX12 23 ∈ z_tb := z_in (in_t6 (List.mem_of_getElem? (i := 183) rfl)) rfl
theorem wlX12_24 : u_lay RX12 TX12 24 ∈ z_tb := z_in (in_t6 (List.mem_of_getElem? (i := 185) rfl)) rfl
theorem wlX12_25 : u_lay RX12 TX12 25 ∈ z_tb := z_in (in_t6 (List.mem_of_getElem? (i := 187) rfl)) rfl
theorem wlX12_26 : u_lay RX12 TX12 26 ∈ z_tb := z_in (in_t6 (List.mem_of_getElem? (i := 189) rfl)) rfl
theorem wlX12_27 : u_lay RX12 TX12 27 ∈ z_tb := z_in (in_t6 (List.mem_of_getElem? (i := 191) rfl)) rfl
theorem wlX12_28 : u_lay RX12 TX12 28 ∈ z_tb := z_in (in_t6 (List.mem_of_getElem? (i := 193) rfl)) rfl
theorem wlX12_29 : u_lay RX12 TX12 29 ∈ z_tb := z_in (in_t6 (List.mem_of_getElem? (i := 195) rfl)) rfl
theorem wlX12_30 : u_lay RX12 TX12 30 ∈ z_tb := z_in (in_t6 (List.mem_of_getElem? (i := 197) rfl)) rfl
theorem wlX12_31 : u_lay RX12 TX12 31 ∈ z_tb := z_in (in_t6 (List.mem_of_getElem? (i := 199) rfl)) rfl
theorem wlX12_32 : u_lay RX12 TX12 32 ∈ z_tb := z_in (in_t6 (List.mem_of_getElem? (i := 201) rfl)) rfl
theorem wlX12_33 : u_lay RX12 TX12 33 ∈ z_tb := z_in (in_t6 (List.mem_of_getElem? (i := 203) rfl)) rfl
theorem wlX12_34 : u_lay RX12 TX12 34 ∈ z_tb := z_in (in_t6 (List.mem_of_getElem? (i := 205) rfl)) rfl
theorem wlX12_35 : u_lay RX12 TX12 35 ∈ z_tb := z_in (in_t6 (List.mem_of_getElem? (i := 207) rfl)) rfl
theorem wlX12_36 : u_lay RX12 TX12 36 ∈ z_tb := z_in (in_t6 (List.mem_of_getElem? (i := 209) rfl)) rfl
theorem wlX12_37 : u_lay RX12 TX12 37 ∈ z_tb := z_in (in_t6 (List.mem_of_getElem? (i := 211) rfl)) rfl
theorem wlX12_38 : u_lay RX12 TX12 38 ∈ z_tb := z_in (in_t6 (List.mem_of_getElem? (i := 213) rfl)) rfl
theorem wlX12_39 : u_lay RX12 TX12 39 ∈ z_tb := z_in (in_t6 (List.mem_of_getElem? (i := 215) rfl)) rfl
theorem wlX12_40 : u_lay RX12 TX12 40 ∈ z_tb := z_in (in_t6 (List.mem_of_getElem? (i := 217) rfl)) rfl
theorem wlX12_41 : u_lay RX12 TX12 41 ∈ z_tb := z_in (in_t6 (List.mem_of_getElem? (i := 219) rfl)) rfl
theorem wlX12_42 : u_lay RX12 TX12 42 ∈ z_tb := z_in (in_t6 (List.mem_of_getElem? (i := 221) rfl)) rfl
theorem wlX12_43 : u_lay RX12 TX12 43 ∈ z_tb := z_in (in_t6 (List.mem_of_getElem? (i := 223) rfl)) rfl
theorem wlX12_44 : u_lay RX12 TX12 44 ∈ z_tb := z_in (in_t6 (List.mem_of_getElem? (i := 225) rfl)) rfl
theorem wlX12_45 : u_lay RX12 TX12 45 ∈ z_tb := z_in (in_t6 (List.mem_of_getElem? (i := 227) rfl)) rfl
theorem wlX12_46 : u_lay RX12 TX12 46 ∈ z_tb := z_in (in_t6 (List.mem_of_getElem? (i := 229) rfl)) rfl
theorem wlX12_47 : u_lay RX12 TX12 47 ∈ z_tb := z_in (in_t6 (List.mem_of_getElem? (i := 231) rfl)) rfl
theorem wlX12_48 : u_lay RX12 TX12 48 ∈ z_tb := z_in (in_t6 (List.mem_of_getElem? (i := 233) rfl)) rfl
theorem wlX12_49 : u_lay RX12 TX12 49 ∈ z_tb := z_in (in_t6 (List.mem_of_getElem? (i := 235) rfl)) rfl
theorem wlX12_50 : u_lay RX12 TX12 50 ∈ z_tb := z_in (in_t6 (List.mem_of_getElem? (i := 237) rfl)) rfl
theorem wlX12_51 : u_lay RX12 TX12 51 ∈ z_tb := z_in (in_t6 (List.mem_of_getElem? (i := 239) rfl)) rfl
theorem wlX12_52 : u_lay RX12 TX12 52 ∈ z_tb := z_in (in_t7 (List.mem_of_getElem? (i := 1) rfl)) rfl
theorem wlX12_53 : u_lay RX12 TX12 53 ∈ z_tb := z_in (in_t7 (List.mem_of_getElem? (i := 3) rfl)) rfl
theorem wlX12_54 : u_lay RX12 TX12 54 ∈ z_tb := z_in (in_t7 (List.mem_of_getElem? (i := 5) rfl)) rfl
theorem wlX12_55 : u_lay RX12 TX12 55 ∈ z_tb := z_in (in_t7 (List.mem_of_getElem? (i := 7) rfl)) rfl
theorem wlX12_56 : u_lay RX12 TX12 56 ∈ z_tb := z_in (in_t7 (List.mem_of_getElem? (i := 9) rfl)) rfl
theorem wlX12_57 : u_lay RX12 TX12 57 ∈ z_tb := z_in (in_t7 (List.mem_of_getElem? (i := 11) rfl)) rfl
theorem wlX12_58 : u_lay RX12 TX12 58 ∈ z_tb := z_in (in_t7 (List.mem_of_getElem? (i := 13) rfl)) rfl
theorem wlX12_59 : u_lay RX12 TX12 59 ∈ z_tb := z_in (in_t7 (List.mem_of_getElem? (i := 15) rfl)) rfl
theorem wlX12_60 : u_lay RX12 TX12 60 ∈ z_tb := z_in (in_t7 (List.mem_of_getElem? (i := 17) rfl)) rfl
theorem wlX12_61 : u_lay RX12 TX12 61 ∈ z_tb := z_in (in_t7 (List.mem_of_getElem? (i := 19) rfl)) rfl
theorem wlX12_62 : u_lay RX12 TX12 62 ∈ z_tb := z_in (in_t7 (List.mem_of_getElem? (i := 21) rfl)) rfl
theorem wlX12_63 : u_lay RX12 TX12 63 ∈ z_tb := z_in (in_t7 (List.mem_of_getElem? (i := 23) rfl)) rfl
theorem wlX12_64 : u_lay RX12 TX12 64 ∈ z_tb := z_in (in_t7 (List.mem_of_getElem? (i := 25) rfl)) rfl
theorem wlX12_65 : u_lay RX12 TX12 65 ∈ z_tb := z_in (in_t7 (List.mem_of_getElem? (i := 27) rfl)) rfl
theorem wlX12_66 : u_lay RX12 TX12 66 ∈ z_tb := z_in (in_t7 (List.mem_of_getElem? (i := 29) rfl)) rfl
theorem wlX12_67 : u_lay RX12 TX12 67 ∈ z_tb := z_in (in_t7 (List.mem_of_getElem? (i := 31) rfl)) rfl
theorem wlX12_68 : u_lay RX12 TX12 68 ∈ z_tb := z_in (in_t7 (List.mem_of_getElem? (i := 33) rfl)) rfl
theorem wlX12_69 : u_lay RX12 TX12 69 ∈ z_tb := z_in (in_t7 (List.mem_of_getElem? (i := 35) rfl)) rfl
theorem wlX12_70 : u_lay RX12 TX12 70 ∈ z_tb := z_in (in_t7 (List.mem_of_getElem? (i := 37) rfl)) rfl
theorem wlX12_71 : u_lay RX12 TX12 71 ∈ z_tb := z_in (in_t7 (List.mem_of_getElem? (i := 39) rfl)) rfl
theorem wlX12_72 : u_lay RX12 TX12 72 ∈ z_tb := z_in (in_t7 (List.mem_of_getElem? (i := 41) rfl)) rfl
theorem wlX12_73 : u_lay RX12 TX12 73 ∈ z_tb := z_in (in_t7 (List.mem_of_getElem? (i := 43) rfl)) rfl
set_option maxRecDepth 100000 in
theorem wlX12 : ∀ k, k < 74 → u_lay RX12 TX12 k ∈ z_tb := fun k hk => match k, hk with
  | 0, _ => wlX12_0
  | 1, _ => wlX12_1
  | 2, _ => wlX12_2
  | 3, _ => wlX12_3
  | 4, _ => wlX12_4
  | 5, _ => wlX12_5
  | 6, _ => wlX12_6
  | 7, _ => wlX12_7
  | 8, _ => wlX12_8
  | 9, _ => wlX12_9
  | 10, _ => wlX12_10
  | 11, _ => wlX12_11
  | 12, _ => wlX12_12
  | 13, _ => wlX12_13
  | 14, _ => wlX12_14
  | 15, _ => wlX12_15
  | 16, _ => wlX12_16
  | 17, _ => wlX12_17
  | 18, _ => wlX12_18
  | 19, _ => wlX12_19
  | 20, _ => wlX12_20
  | 21, _ => wlX12_21
  | 22, _ => wlX12_22
  | 23, _ => wlX12_23
  | 24, _ => wlX12_24
  | 25, _ => wlX12_25
  | 26, _ => wlX12_26
  | 27, _ => wlX12_27
  | 28, _ => wlX12_28
  | 29, _ => wlX12_29
  | 30, _ => wlX12_30
  | 31, _ => wlX12_31
  | 32, _ => wlX12_32
  | 33, _ => wlX12_33
  | 34, _ => wlX12_34
  | 35, _ => wlX12_35
  | 36, _ => wlX12_36
  | 37, _ => wlX12_37
  | 38, _ => wlX12_38
  | 39, _ => wlX12_39
  | 40, _ => wlX12_40
  | 41, _ => wlX12_41
  | 42, _ => wlX12_42
  | 43, _ => wlX12_43
  | 44, _ => wlX12_44
  | 45, _ => wlX12_45
  | 46, _ => wlX12_46
  | 47, _ => wlX12_47
  | 48, _ => wlX12_48
  | 49, _ => wlX12_49
  | 50, _ => wlX12_50
  | 51, _ => wlX12_51
  | 52, _ => wlX12_52
  | 53, _ => wlX12_53
  | 54, _ => wlX12_54
  | 55, _ => wlX12_55
  | 56, _ => wlX12_56
  | 57, _ => wlX12_57
  | 58, _ => wlX12_58
  | 59, _ => wlX12_59
  | 60, _ => wlX12_60
  | 61, _ => wlX12_61
  | 62, _ => wlX12_62
  | 63, _ => wlX12_63
  | 64, _ => wlX12_64
  | 65, _ => wlX12_65
  | 66, _ => wlX12_66
  | 67, _ => wlX12_67
  | 68, _ => wlX12_68
  | 69, _ => wlX12_69
  | 70, _ => wlX12_70
  | 71, _ => wlX12_71
  | 72, _ => wlX12_72
  | 73, _ => wlX12_73
  | k + 74, h => absurd h (by omega)
theorem clX12 : z_Cl 12 (RX12, TX12, 74) tyX12 := ⟨rfl, z_lays wlX12, tyX12_ok, nmX12⟩
theorem dfX12 : ∀ j, j < 74 → defaultValue (tyX12 j) = if z_isR 12 j = true then .null else .int 0 := by decide +kernel

/-! ===== what the tables say of fields, classes, calls, by the places of their words ===== -/
def ax_tb : Nat → List Cond
  | 1 => tables_1_1
  | 2 => tables_1_2
  | 3 => tables_1_3
  | 4 => tables_1_4
  | 5 => tables_1_5
  | 6 => tables_1_6
  | 7 => tables_1_7
  | 8 => k2_sels lw_privs_1
  | 9 => k2_sels lw_privs_2
  | 10 => k2_sels lw_privs_3
  | 11 => k2_sels lw_privs_4
  | 12 => k2_sels lw_privs_5
  | 13 => k2_sels lw_privs_6
  | _ => []
theorem ax_tb_in (k : Nat) : ∀ w ∈ ax_tb k, w ∈ lw_tbl := by
  intro w hw
  have hs : k2_sels lw_privs = k2_sels lw_privs_1 ++ (k2_sels lw_privs_2 ++ (k2_sels lw_privs_3 ++ (k2_sels lw_privs_4 ++ (k2_sels lw_privs_5 ++ k2_sels lw_privs_6)))) := by
    unfold lw_privs k2_sels
    simp only [List.map_append]
  unfold lw_tbl tables_1
  rw [hs]
  simp only [List.mem_append]
  match k, hw with
  | 0, h => cases h
  | 1, h => exact Or.inr (Or.inl h)
  | 2, h => exact Or.inr (Or.inr (Or.inl h))
  | 3, h => exact Or.inr (Or.inr (Or.inr (Or.inl h)))
  | 4, h => exact Or.inr (Or.inr (Or.inr (Or.inr (Or.inl h))))
  | 5, h => exact Or.inr (Or.inr (Or.inr (Or.inr (Or.inr (Or.inl h)))))
  | 6, h => exact Or.inr (Or.inr (Or.inr (Or.inr (Or.inr (Or.inr (Or.inl h))))))
  | 7, h => exact Or.inr (Or.inr (Or.inr (Or.inr (Or.inr (Or.inr (Or.inr h))))))
  | 8, h => exact Or.inl (Or.inl h)
  | 9, h => exact Or.inl (Or.inr (Or.inl h))
  | 10, h => exact Or.inl (Or.inr (Or.inr (Or.inl h)))
  | 11, h => exact Or.inl (Or.inr (Or.inr (Or.inr (Or.inl h))))
  | 12, h => exact Or.inl (Or.inr (Or.inr (Or.inr (Or.inr (Or.inl h)))))
  | 13, h => exact Or.inl (Or.inr (Or.inr (Or.inr (Or.inr (Or.inr h)))))
  | n + 14, h => cases h
theorem ax_inT (k i : Nat) {w : Cond} (h : (decide ((ax_tb k)[i]? = some w) && ax_use w) = true) : w ∈ lw_use := by
  rw [Bool.and_eq_true, decide_eq_true_eq] at h
  exact List.mem_filter.mpr ⟨ax_tb_in k w (List.mem_of_getElem? h.1), h.2⟩
theorem ax_cw {C : String} {T : u_T} {N : Nat} (ps : List (Nat × Nat)) (h : (List.range N).all (fun k => decide ((ax_tb (ps.getD k (0, 0)).1)[(ps.getD k (0, 0)).2]? = some (u_lay C T k)) && ax_use (u_lay C T k)) = true) : ∀ w ∈ u_ws C T N, w ∈ lw_use := by
  intro w hw
  obtain ⟨k, hk, rfl⟩ := List.mem_map.mp hw
  have h1 := List.all_eq_true.mp h k hk
  rw [Bool.and_eq_true, decide_eq_true_eq] at h1
  exact List.mem_filter.mpr ⟨ax_tb_in _ _ (List.mem_of_getElem? h1.1), h1.2⟩
theorem cw0 : ∀ w ∈ u_ws RX0 TX0 7, w ∈ lw_use := ax_cw [(2, 12), (2, 14), (2, 16), (2, 18), (2, 20), (2, 22), (2, 24)] (by decide +kernel)
theorem fw0 : ax_fw 0 tyX0 := ⟨(RX0, TX0, 7), rfl, tyX0_ok, nmX0⟩
theorem cw1 : ∀ w ∈ u_ws RX1 TX1 3, w ∈ lw_use := ax_cw [(1, 107), (1, 109), (1, 111)] (by decide +kernel)
theorem fw1 : ax_fw 1 tyX1 := ⟨(RX1, TX1, 3), rfl, tyX1_ok, nmX1⟩
theorem cw2 : ∀ w ∈ u_ws RX2 TX2 3, w ∈ lw_use := ax_cw [(1, 207), (1, 209), (1, 211)] (by decide +kernel)
theorem fw2 : ax_fw 2 tyX2 := ⟨(RX2, TX2, 3), rfl, tyX2_ok, nmX2⟩
theorem cw3 : ∀ w ∈ u_ws RX3 TX3 8, w ∈ lw_use := ax_cw [(1, 228), (1, 230), (1, 232), (1, 234), (1, 236), (1, 238), (2, 0), (2, 2)] (by decide +kernel)
theorem fw3 : ax_fw 3 tyX3 := ⟨(RX3, TX3, 8), rfl, tyX3_ok, nmX3⟩
theorem cw4 : ∀ w ∈ u_ws RX4 TX4 2, w ∈ lw_use := ax_cw [(2, 44), (2, 46)] (by decide +kernel)
theorem fw4 : ax_fw 4 tyX4 := ⟨(RX4, TX4, 2), rfl, tyX4_ok, nmX4⟩
theorem cw5 : ∀ w ∈ u_ws RX5 TX5 3, w ∈ lw_use := ax_cw [(2, 60), (2, 62), (2, 64)] (by decide +kernel)
theorem fw5 : ax_fw 5 tyX5 := ⟨(RX5, TX5, 3), rfl, tyX5_ok, nmX5⟩
theorem cw6 : ∀ w ∈ u_ws RX6 TX6 4, w ∈ lw_use := ax_cw [(2, 80), (2, 82), (2, 84), (2, 86)] (by decide +kernel)
theorem fw6 : ax_fw 6 tyX6 := ⟨(RX6, TX6, 4), rfl, tyX6_ok, nmX6⟩
theorem cw7 : ∀ w ∈ u_ws RX7 TX7 14, w ∈ lw_use := ax_cw [(1, 64), (1, 66), (1, 68), (1, 70), (1, 72), (1, 74), (1, 76), (1, 78), (1, 80), (1, 82), (1, 84), (1, 86), (1, 88), (1, 90)] (by decide +kernel)
theorem fw7 : ax_fw 7 tyX7 := ⟨(RX7, TX7, 14), rfl, tyX7_ok, nmX7⟩
theorem cw8 : ∀ w ∈ u_ws RX8 TX8 4, w ∈ lw_use := ax_cw [(1, 138), (1, 140), (1, 142), (1, 144)] (by decide +kernel)
theorem fw8 : ax_fw 8 tyX8 := ⟨(RX8, TX8, 4), rfl, tyX8_ok, nmX8⟩
theorem cw9 : ∀ w ∈ u_ws RX9 TX9 10, w ∈ lw_use := ax_cw [(1, 159), (1, 161), (1, 163), (1, 165), (1, 167), (1, 169), (1, 171), (1, 173), (1, 175), (1, 177)] (by decide +kernel)
theorem fw9 : ax_fw 9 tyX9 := ⟨(RX9, TX9, 10), rfl, tyX9_ok, nmX9⟩
theorem cw10 : ∀ w ∈ u_ws RX10 TX10 17, w ∈ lw_use := ax_cw [(2, 106), (2, 108), (2, 110), (2, 112), (2, 114), (2, 116), (2, 118), (2, 120), (2, 122), (2, 124), (2, 126), (2, 128), (2, 130), (2, 132), (2, 134), (2, 136), (2, 138)] (by decide +kernel)
theorem fw10 : ax_fw 10 tyX10 := ⟨(RX10, TX10, 17), rfl, tyX10_ok, nmX10⟩
theorem cw11 : ∀ w ∈ u_ws RX11 TX11 46, w ∈ lw_use := ax_cw [(5, 132), (5, 134), (5, 136), (5, 138), (5, 140), (5, 142), (5, 144), (5, 146), (5, 148), (5, 150), (5, 152), (5, 154), (5, 156), (5, 158), (5, 160), (5, 162), (5, 164), (5, 166), (5, 168), (5, 170), (5, 172), (5, 174), (5, 176), (5, 178), (5, 180), (5, 182), (5, 184), (5, 186), (5, 188), (5, 190), (5, 192), (5, 194), (5, 196), (5, 198), (5, 200), (5, 202), (5, 204), (5, 206), (5, 208), (5, 210), (5, 212), (5, 214), (5, 216), (5, 218), (5, 220), (5, 222)] (by decide +kernel)
theorem fw11 : ax_fw 11 tyX11 := ⟨(RX11, TX11, 46), rfl, tyX11_ok, nmX11⟩
theorem flX10_10 : ax_fl RX10 10 10 0 := ⟨(RX10, TX10, 17), rfl, by decide, ax_inT 2 89 (by decide +kernel), cw10⟩
theorem flX10_16 : ax_fl RX10 16 10 1 := ⟨(RX10, TX10, 17), rfl, by decide, ax_inT 2 90 (by decide +kernel), cw10⟩
theorem flX10_19 : ax_fl RX10 19 10 2 := ⟨(RX10, TX10, 17), rfl, by decide, ax_inT 2 91 (by decide +kernel), cw10⟩
theorem flX10_26 : ax_fl RX10 26 10 3 := ⟨(RX10, TX10, 17), rfl, by decide, ax_inT 2 92 (by decide +kernel), cw10⟩
theorem flX10_33 : ax_fl RX10 33 10 4 := ⟨(RX10, TX10, 17), rfl, by decide, ax_inT 2 93 (by decide +kernel), cw10⟩
theorem flX10_40 : ax_fl RX10 40 10 5 := ⟨(RX10, TX10, 17), rfl, by decide, ax_inT 2 94 (by decide +kernel), cw10⟩
theorem flX10_46 : ax_fl RX10 46 10 6 := ⟨(RX10, TX10, 17), rfl, by decide, ax_inT 2 95 (by decide +kernel), cw10⟩
theorem flX10_52 : ax_fl RX10 52 10 7 := ⟨(RX10, TX10, 17), rfl, by decide, ax_inT 2 96 (by decide +kernel), cw10⟩
theorem flX10_59 : ax_fl RX10 59 10 8 := ⟨(RX10, TX10, 17), rfl, by decide, ax_inT 2 97 (by decide +kernel), cw10⟩
theorem flX10_63 : ax_fl RX10 63 10 9 := ⟨(RX10, TX10, 17), rfl, by decide, ax_inT 2 98 (by decide +kernel), cw10⟩
theorem flX10_69 : ax_fl RX10 69 10 10 := ⟨(RX10, TX10, 17), rfl, by decide, ax_inT 2 99 (by decide +kernel), cw10⟩
theorem flX10_73 : ax_fl RX10 73 10 11 := ⟨(RX10, TX10, 17), rfl, by decide, ax_inT 2 100 (by decide +kernel), cw10⟩
theorem flX10_79 : ax_fl RX10 79 10 12 := ⟨(RX10, TX10, 17), rfl, by decide, ax_inT 2 101 (by decide +kernel), cw10⟩
theorem flX10_83 : ax_fl RX10 83 10 13 := ⟨(RX10, TX10, 17), rfl, by decide, ax_inT 2 102 (by decide +kernel), cw10⟩
theorem flX10_86 : ax_fl RX10 86 10 14 := ⟨(RX10, TX10, 17), rfl, by decide, ax_inT 2 103 (by decide +kernel), cw10⟩
theorem flX10_89 : ax_fl RX10 89 10 15 := ⟨(RX10, TX10, 17), rfl, by decide, ax_inT 2 104 (by decide +kernel), cw10⟩
theorem flX10_93 : ax_fl RX10 93 10 16 := ⟨(RX10, TX10, 17), rfl, by decide, ax_inT 2 105 (by decide +kernel), cw10⟩
theorem flX10_106 : ax_fl RX10 106 7 0 := ⟨(RX7, TX7, 14), rfl, by decide, ax_inT 1 34 (by decide +kernel), cw7⟩
theorem flX10_118 : ax_fl RX10 118 7 1 := ⟨(RX7, TX7, 14), rfl, by decide, ax_inT 1 37 (by decide +kernel), cw7⟩
theorem flX10_149 : ax_fl RX10 149 4 0 := ⟨(RX4, TX4, 2), rfl, by decide, ax_inT 2 42 (by decide +kernel), cw4⟩
theorem flX10_195 : ax_fl RX10 195 5 2 := ⟨(RX5, TX5, 3), rfl, by decide, ax_inT 2 59 (by decide +kernel), cw5⟩
theorem flX10_215 : ax_fl RX10 215 7 5 := ⟨(RX7, TX7, 14), rfl, by decide, ax_inT 1 52 (by decide +kernel), cw7⟩
theorem flX10_221 : ax_fl RX10 221 7 3 := ⟨(RX7, TX7, 14), rfl, by decide, ax_inT 1 43 (by decide +kernel), cw7⟩
theorem flX10_224 : ax_fl RX10 224 7 4 := ⟨(RX7, TX7, 14), rfl, by decide, ax_inT 1 48 (by decide +kernel), cw7⟩
theorem flX10_246 : ax_fl RX10 246 3 1 := ⟨(RX3, TX3, 8), rfl, by decide, ax_inT 1 217 (by decide +kernel), cw3⟩
theorem flX10_256 : ax_fl RX10 256 3 2 := ⟨(RX3, TX3, 8), rfl, by decide, ax_inT 1 220 (by decide +kernel), cw3⟩
theorem flX10_259 : ax_fl RX10 259 3 3 := ⟨(RX3, TX3, 8), rfl, by decide, ax_inT 1 223 (by decide +kernel), cw3⟩
theorem flX10_266 : ax_fl RX10 266 9 1 := ⟨(RX9, TX9, 10), rfl, by decide, ax_inT 1 150 (by decide +kernel), cw9⟩
theorem flX10_282 : ax_fl RX10 282 8 0 := ⟨(RX8, TX8, 4), rfl, by decide, ax_inT 1 130 (by decide +kernel), cw8⟩
theorem flX10_286 : ax_fl RX10 286 8 1 := ⟨(RX8, TX8, 4), rfl, by decide, ax_inT 1 134 (by decide +kernel), cw8⟩
theorem flX10_321 : ax_fl RX10 321 7 6 := ⟨(RX7, TX7, 14), rfl, by decide, ax_inT 1 54 (by decide +kernel), cw7⟩
theorem flX10_334 : ax_fl RX10 334 1 2 := ⟨(RX1, TX1, 3), rfl, by decide, ax_inT 1 106 (by decide +kernel), cw1⟩
theorem flX10_341 : ax_fl RX10 341 5 0 := ⟨(RX5, TX5, 3), rfl, by decide, ax_inT 2 55 (by decide +kernel), cw5⟩
theorem flX10_353 : ax_fl RX10 353 5 1 := ⟨(RX5, TX5, 3), rfl, by decide, ax_inT 2 57 (by decide +kernel), cw5⟩
theorem flX10_359 : ax_fl RX10 359 6 0 := ⟨(RX6, TX6, 4), rfl, by decide, ax_inT 2 73 (by decide +kernel), cw6⟩
theorem flX10_362 : ax_fl RX10 362 6 1 := ⟨(RX6, TX6, 4), rfl, by decide, ax_inT 2 75 (by decide +kernel), cw6⟩
theorem flX10_367 : ax_fl RX10 367 6 2 := ⟨(RX6, TX6, 4), rfl, by decide, ax_inT 2 77 (by decide +kernel), cw6⟩
theorem flX10_368 : ax_fl RX10 368 6 3 := ⟨(RX6, TX6, 4), rfl, by decide, ax_inT 2 79 (by decide +kernel), cw6⟩
theorem flX10_410 : ax_fl RX10 410 7 8 := ⟨(RX7, TX7, 14), rfl, by decide, ax_inT 1 58 (by decide +kernel), cw7⟩
theorem flX10_413 : ax_fl RX10 413 7 7 := ⟨(RX7, TX7, 14), rfl, by decide, ax_inT 1 56 (by decide +kernel), cw7⟩
theorem flX0_11 : ax_fl RX0 11 0 0 := ⟨(RX0, TX0, 7), rfl, by decide, ax_inT 2 5 (by decide +kernel), cw0⟩
theorem flX0_18 : ax_fl RX0 18 0 1 := ⟨(RX0, TX0, 7), rfl, by decide, ax_inT 2 6 (by decide +kernel), cw0⟩
theorem flX0_22 : ax_fl RX0 22 0 2 := ⟨(RX0, TX0, 7), rfl, by decide, ax_inT 2 7 (by decide +kernel), cw0⟩
theorem flX0_25 : ax_fl RX0 25 0 3 := ⟨(RX0, TX0, 7), rfl, by decide, ax_inT 2 8 (by decide +kernel), cw0⟩
theorem flX0_29 : ax_fl RX0 29 0 4 := ⟨(RX0, TX0, 7), rfl, by decide, ax_inT 2 9 (by decide +kernel), cw0⟩
theorem flX0_32 : ax_fl RX0 32 0 5 := ⟨(RX0, TX0, 7), rfl, by decide, ax_inT 2 10 (by decide +kernel), cw0⟩
theorem flX0_35 : ax_fl RX0 35 0 6 := ⟨(RX0, TX0, 7), rfl, by decide, ax_inT 2 11 (by decide +kernel), cw0⟩
theorem flX0_51 : ax_fl RX0 51 7 3 := ⟨(RX7, TX7, 14), rfl, by decide, ax_inT 1 41 (by decide +kernel), cw7⟩
theorem flX0_53 : ax_fl RX0 53 7 4 := ⟨(RX7, TX7, 14), rfl, by decide, ax_inT 1 47 (by decide +kernel), cw7⟩
theorem flX0_78 : ax_fl RX0 78 3 2 := ⟨(RX3, TX3, 8), rfl, by decide, ax_inT 1 219 (by decide +kernel), cw3⟩
theorem flX0_82 : ax_fl RX0 82 3 3 := ⟨(RX3, TX3, 8), rfl, by decide, ax_inT 1 222 (by decide +kernel), cw3⟩
theorem flX0_91 : ax_fl RX0 91 3 1 := ⟨(RX3, TX3, 8), rfl, by decide, ax_inT 1 216 (by decide +kernel), cw3⟩
theorem flX0_98 : ax_fl RX0 98 7 0 := ⟨(RX7, TX7, 14), rfl, by decide, ax_inT 1 35 (by decide +kernel), cw7⟩
theorem flX1_11 : ax_fl RX1 11 1 0 := ⟨(RX1, TX1, 3), rfl, by decide, ax_inT 1 103 (by decide +kernel), cw1⟩
theorem flX1_17 : ax_fl RX1 17 1 1 := ⟨(RX1, TX1, 3), rfl, by decide, ax_inT 1 104 (by decide +kernel), cw1⟩
theorem flX1_21 : ax_fl RX1 21 1 2 := ⟨(RX1, TX1, 3), rfl, by decide, ax_inT 1 105 (by decide +kernel), cw1⟩
theorem flX2_11 : ax_fl RX2 11 2 0 := ⟨(RX2, TX2, 3), rfl, by decide, ax_inT 1 200 (by decide +kernel), cw2⟩
theorem flX2_16 : ax_fl RX2 16 2 1 := ⟨(RX2, TX2, 3), rfl, by decide, ax_inT 1 202 (by decide +kernel), cw2⟩
theorem flX2_20 : ax_fl RX2 20 2 2 := ⟨(RX2, TX2, 3), rfl, by decide, ax_inT 1 204 (by decide +kernel), cw2⟩
theorem flX3_12 : ax_fl RX3 12 3 0 := ⟨(RX3, TX3, 8), rfl, by decide, ax_inT 1 214 (by decide +kernel), cw3⟩
theorem flX3_18 : ax_fl RX3 18 3 1 := ⟨(RX3, TX3, 8), rfl, by decide, ax_inT 1 215 (by decide +kernel), cw3⟩
theorem flX3_21 : ax_fl RX3 21 3 2 := ⟨(RX3, TX3, 8), rfl, by decide, ax_inT 1 218 (by decide +kernel), cw3⟩
theorem flX3_24 : ax_fl RX3 24 3 3 := ⟨(RX3, TX3, 8), rfl, by decide, ax_inT 1 221 (by decide +kernel), cw3⟩
theorem flX3_27 : ax_fl RX3 27 3 4 := ⟨(RX3, TX3, 8), rfl, by decide, ax_inT 1 224 (by decide +kernel), cw3⟩
theorem flX3_30 : ax_fl RX3 30 3 5 := ⟨(RX3, TX3, 8), rfl, by decide, ax_inT 1 225 (by decide +kernel), cw3⟩
theorem flX3_33 : ax_fl RX3 33 3 6 := ⟨(RX3, TX3, 8), rfl, by decide, ax_inT 1 226 (by decide +kernel), cw3⟩
theorem flX3_37 : ax_fl RX3 37 3 7 := ⟨(RX3, TX3, 8), rfl, by decide, ax_inT 1 227 (by decide +kernel), cw3⟩
theorem flX3_40 : ax_fl RX3 40 7 3 := ⟨(RX7, TX7, 14), rfl, by decide, ax_inT 1 40 (by decide +kernel), cw7⟩
theorem flX3_50 : ax_fl RX3 50 7 4 := ⟨(RX7, TX7, 14), rfl, by decide, ax_inT 1 45 (by decide +kernel), cw7⟩
theorem flX3_57 : ax_fl RX3 57 2 2 := ⟨(RX2, TX2, 3), rfl, by decide, ax_inT 1 206 (by decide +kernel), cw2⟩
theorem flX3_85 : ax_fl RX3 85 7 5 := ⟨(RX7, TX7, 14), rfl, by decide, ax_inT 1 51 (by decide +kernel), cw7⟩
theorem flX4_9 : ax_fl RX4 9 4 0 := ⟨(RX4, TX4, 2), rfl, by decide, ax_inT 2 41 (by decide +kernel), cw4⟩
theorem flX4_15 : ax_fl RX4 15 4 1 := ⟨(RX4, TX4, 2), rfl, by decide, ax_inT 2 43 (by decide +kernel), cw4⟩
theorem flX4_19 : ax_fl RX4 19 2 2 := ⟨(RX2, TX2, 3), rfl, by decide, ax_inT 1 205 (by decide +kernel), cw2⟩
theorem flX5_9 : ax_fl RX5 9 5 0 := ⟨(RX5, TX5, 3), rfl, by decide, ax_inT 2 54 (by decide +kernel), cw5⟩
theorem flX5_15 : ax_fl RX5 15 5 1 := ⟨(RX5, TX5, 3), rfl, by decide, ax_inT 2 56 (by decide +kernel), cw5⟩
theorem flX5_18 : ax_fl RX5 18 5 2 := ⟨(RX5, TX5, 3), rfl, by decide, ax_inT 2 58 (by decide +kernel), cw5⟩
theorem flX6_9 : ax_fl RX6 9 6 0 := ⟨(RX6, TX6, 4), rfl, by decide, ax_inT 2 72 (by decide +kernel), cw6⟩
theorem flX6_15 : ax_fl RX6 15 6 1 := ⟨(RX6, TX6, 4), rfl, by decide, ax_inT 2 74 (by decide +kernel), cw6⟩
theorem flX6_19 : ax_fl RX6 19 6 2 := ⟨(RX6, TX6, 4), rfl, by decide, ax_inT 2 76 (by decide +kernel), cw6⟩
theorem flX6_22 : ax_fl RX6 22 6 3 := ⟨(RX6, TX6, 4), rfl, by decide, ax_inT 2 78 (by decide +kernel), cw6⟩
theorem flX7_9 : ax_fl RX7 9 7 0 := ⟨(RX7, TX7, 14), rfl, by decide, ax_inT 1 33 (by decide +kernel), cw7⟩
theorem flX7_15 : ax_fl RX7 15 7 1 := ⟨(RX7, TX7, 14), rfl, by decide, ax_inT 1 36 (by decide +kernel), cw7⟩
theorem flX7_18 : ax_fl RX7 18 7 2 := ⟨(RX7, TX7, 14), rfl, by decide, ax_inT 1 38 (by decide +kernel), cw7⟩
theorem flX7_21 : ax_fl RX7 21 7 3 := ⟨(RX7, TX7, 14), rfl, by decide, ax_inT 1 39 (by decide +kernel), cw7⟩
theorem flX7_24 : ax_fl RX7 24 7 4 := ⟨(RX7, TX7, 14), rfl, by decide, ax_inT 1 44 (by decide +kernel), cw7⟩
theorem flX7_27 : ax_fl RX7 27 7 5 := ⟨(RX7, TX7, 14), rfl, by decide, ax_inT 1 49 (by decide +kernel), cw7⟩
theorem flX7_30 : ax_fl RX7 30 7 6 := ⟨(RX7, TX7, 14), rfl, by decide, ax_inT 1 53 (by decide +kernel), cw7⟩
theorem flX7_34 : ax_fl RX7 34 7 7 := ⟨(RX7, TX7, 14), rfl, by decide, ax_inT 1 55 (by decide +kernel), cw7⟩
theorem flX7_37 : ax_fl RX7 37 7 8 := ⟨(RX7, TX7, 14), rfl, by decide, ax_inT 1 57 (by decide +kernel), cw7⟩
theorem flX7_40 : ax_fl RX7 40 7 9 := ⟨(RX7, TX7, 14), rfl, by decide, ax_inT 1 59 (by decide +kernel), cw7⟩
theorem flX7_43 : ax_fl RX7 43 7 10 := ⟨(RX7, TX7, 14), rfl, by decide, ax_inT 1 60 (by decide +kernel), cw7⟩
theorem flX7_46 : ax_fl RX7 46 7 11 := ⟨(RX7, TX7, 14), rfl, by decide, ax_inT 1 61 (by decide +kernel), cw7⟩
theorem flX7_49 : ax_fl RX7 49 7 12 := ⟨(RX7, TX7, 14), rfl, by decide, ax_inT 1 62 (by decide +kernel), cw7⟩
theorem flX7_52 : ax_fl RX7 52 7 13 := ⟨(RX7, TX7, 14), rfl, by decide, ax_inT 1 63 (by decide +kernel), cw7⟩
theorem flX7_83 : ax_fl RX7 83 2 1 := ⟨(RX2, TX2, 3), rfl, by decide, ax_inT 1 203 (by decide +kernel), cw2⟩
theorem flX7_97 : ax_fl RX7 97 8 0 := ⟨(RX8, TX8, 4), rfl, by decide, ax_inT 1 129 (by decide +kernel), cw8⟩
theorem flX7_101 : ax_fl RX7 101 8 1 := ⟨(RX8, TX8, 4), rfl, by decide, ax_inT 1 133 (by decide +kernel), cw8⟩
theorem flX7_103 : ax_fl RX7 103 8 2 := ⟨(RX8, TX8, 4), rfl, by decide, ax_inT 1 136 (by decide +kernel), cw8⟩
theorem flX8_9 : ax_fl RX8 9 8 0 := ⟨(RX8, TX8, 4), rfl, by decide, ax_inT 1 127 (by decide +kernel), cw8⟩
theorem flX8_15 : ax_fl RX8 15 8 1 := ⟨(RX8, TX8, 4), rfl, by decide, ax_inT 1 131 (by decide +kernel), cw8⟩
theorem flX8_18 : ax_fl RX8 18 8 2 := ⟨(RX8, TX8, 4), rfl, by decide, ax_inT 1 135 (by decide +kernel), cw8⟩
theorem flX8_22 : ax_fl RX8 22 8 3 := ⟨(RX8, TX8, 4), rfl, by decide, ax_inT 1 137 (by decide +kernel), cw8⟩
theorem flX8_31 : ax_fl RX8 31 7 3 := ⟨(RX7, TX7, 14), rfl, by decide, ax_inT 1 42 (by decide +kernel), cw7⟩
theorem flX8_36 : ax_fl RX8 36 7 4 := ⟨(RX7, TX7, 14), rfl, by decide, ax_inT 1 46 (by decide +kernel), cw7⟩
theorem flX8_38 : ax_fl RX8 38 7 5 := ⟨(RX7, TX7, 14), rfl, by decide, ax_inT 1 50 (by decide +kernel), cw7⟩
theorem flX9_9 : ax_fl RX9 9 9 0 := ⟨(RX9, TX9, 10), rfl, by decide, ax_inT 1 148 (by decide +kernel), cw9⟩
theorem flX9_15 : ax_fl RX9 15 9 1 := ⟨(RX9, TX9, 10), rfl, by decide, ax_inT 1 149 (by decide +kernel), cw9⟩
theorem flX9_19 : ax_fl RX9 19 9 2 := ⟨(RX9, TX9, 10), rfl, by decide, ax_inT 1 151 (by decide +kernel), cw9⟩
theorem flX9_22 : ax_fl RX9 22 9 3 := ⟨(RX9, TX9, 10), rfl, by decide, ax_inT 1 152 (by decide +kernel), cw9⟩
theorem flX9_26 : ax_fl RX9 26 9 4 := ⟨(RX9, TX9, 10), rfl, by decide, ax_inT 1 153 (by decide +kernel), cw9⟩
theorem flX9_29 : ax_fl RX9 29 9 5 := ⟨(RX9, TX9, 10), rfl, by decide, ax_inT 1 154 (by decide +kernel), cw9⟩
theorem flX9_32 : ax_fl RX9 32 9 6 := ⟨(RX9, TX9, 10), rfl, by decide, ax_inT 1 155 (by decide +kernel), cw9⟩
theorem flX9_37 : ax_fl RX9 37 9 7 := ⟨(RX9, TX9, 10), rfl, by decide, ax_inT 1 156 (by decide +kernel), cw9⟩
theorem flX9_41 : ax_fl RX9 41 9 8 := ⟨(RX9, TX9, 10), rfl, by decide, ax_inT 1 157 (by decide +kernel), cw9⟩
theorem flX9_44 : ax_fl RX9 44 9 9 := ⟨(RX9, TX9, 10), rfl, by decide, ax_inT 1 158 (by decide +kernel), cw9⟩
theorem flX9_73 : ax_fl RX9 73 8 0 := ⟨(RX8, TX8, 4), rfl, by decide, ax_inT 1 128 (by decide +kernel), cw8⟩
theorem flX9_76 : ax_fl RX9 76 8 1 := ⟨(RX8, TX8, 4), rfl, by decide, ax_inT 1 132 (by decide +kernel), cw8⟩
theorem flX11_7 : ax_fl RX11 7 11 0 := ⟨(RX11, TX11, 46), rfl, by decide, ax_inT 5 86 (by decide +kernel), cw11⟩
theorem flX11_13 : ax_fl RX11 13 11 1 := ⟨(RX11, TX11, 46), rfl, by decide, ax_inT 5 87 (by decide +kernel), cw11⟩
theorem flX11_16 : ax_fl RX11 16 11 2 := ⟨(RX11, TX11, 46), rfl, by decide, ax_inT 5 88 (by decide +kernel), cw11⟩
theorem flX11_19 : ax_fl RX11 19 11 5 := ⟨(RX11, TX11, 46), rfl, by decide, ax_inT 5 91 (by decide +kernel), cw11⟩
theorem flX11_23 : ax_fl RX11 23 11 7 := ⟨(RX11, TX11, 46), rfl, by decide, ax_inT 5 93 (by decide +kernel), cw11⟩
theorem flX11_26 : ax_fl RX11 26 11 8 := ⟨(RX11, TX11, 46), rfl, by decide, ax_inT 5 94 (by decide +kernel), cw11⟩
theorem flX11_29 : ax_fl RX11 29 11 9 := ⟨(RX11, TX11, 46), rfl, by decide, ax_inT 5 95 (by decide +kernel), cw11⟩
theorem flX11_32 : ax_fl RX11 32 11 10 := ⟨(RX11, TX11, 46), rfl, by decide, ax_inT 5 96 (by decide +kernel), cw11⟩
theorem flX11_35 : ax_fl RX11 35 11 11 := ⟨(RX11, TX11, 46), rfl, by decide, ax_inT 5 97 (by decide +kernel), cw11⟩
theorem flX11_38 : ax_fl RX11 38 11 12 := ⟨(RX11, TX11, 46), rfl, by decide, ax_inT 5 98 (by decide +kernel), cw11⟩
theorem flX11_41 : ax_fl RX11 41 11 13 := ⟨(RX11, TX11, 46), rfl, by decide, ax_inT 5 99 (by decide +kernel), cw11⟩
theorem flX11_44 : ax_fl RX11 44 11 14 := ⟨(RX11, TX11, 46), rfl, by decide, ax_inT 5 100 (by decide +kernel), cw11⟩
theorem flX11_47 : ax_fl RX11 47 11 15 := ⟨(RX11, TX11, 46), rfl, by decide, ax_inT 5 101 (by decide +kernel), cw11⟩
theorem flX11_50 : ax_fl RX11 50 11 19 := ⟨(RX11, TX11, 46), rfl, by decide, ax_inT 5 105 (by decide +kernel), cw11⟩
theorem flX11_53 : ax_fl RX11 53 11 21 := ⟨(RX11, TX11, 46), rfl, by decide, ax_inT 5 107 (by decide +kernel), cw11⟩
theorem flX11_56 : ax_fl RX11 56 11 22 := ⟨(RX11, TX11, 46), rfl, by decide, ax_inT 5 108 (by decide +kernel), cw11⟩
theorem flX11_59 : ax_fl RX11 59 11 23 := ⟨(RX11, TX11, 46), rfl, by decide, ax_inT 5 109 (by decide +kernel), cw11⟩
theorem flX11_62 : ax_fl RX11 62 11 24 := ⟨(RX11, TX11, 46), rfl, by decide, ax_inT 5 110 (by decide +kernel), cw11⟩
theorem flX11_66 : ax_fl RX11 66 11 25 := ⟨(RX11, TX11, 46), rfl, by decide, ax_inT 5 111 (by decide +kernel), cw11⟩
theorem flX11_69 : ax_fl RX11 69 11 26 := ⟨(RX11, TX11, 46), rfl, by decide, ax_inT 5 112 (by decide +kernel), cw11⟩
theorem flX11_72 : ax_fl RX11 72 11 27 := ⟨(RX11, TX11, 46), rfl, by decide, ax_inT 5 113 (by decide +kernel), cw11⟩
theorem flX11_75 : ax_fl RX11 75 11 28 := ⟨(RX11, TX11, 46), rfl, by decide, ax_inT 5 114 (by decide +kernel), cw11⟩
theorem flX11_78 : ax_fl RX11 78 11 34 := ⟨(RX11, TX11, 46), rfl, by decide, ax_inT 5 120 (by decide +kernel), cw11⟩
theorem flX11_81 : ax_fl RX11 81 11 35 := ⟨(RX11, TX11, 46), rfl, by decide, ax_inT 5 121 (by decide +kernel), cw11⟩
theorem flX11_84 : ax_fl RX11 84 11 36 := ⟨(RX11, TX11, 46), rfl, by decide, ax_inT 5 122 (by decide +kernel), cw11⟩
theorem flX11_87 : ax_fl RX11 87 11 37 := ⟨(RX11, TX11, 46), rfl, by decide, ax_inT 5 123 (by decide +kernel), cw11⟩
theorem flX11_90 : ax_fl RX11 90 11 38 := ⟨(RX11, TX11, 46), rfl, by decide, ax_inT 5 124 (by decide +kernel), cw11⟩
theorem flX11_93 : ax_fl RX11 93 11 40 := ⟨(RX11, TX11, 46), rfl, by decide, ax_inT 5 126 (by decide +kernel), cw11⟩
theorem flX11_96 : ax_fl RX11 96 11 41 := ⟨(RX11, TX11, 46), rfl, by decide, ax_inT 5 127 (by decide +kernel), cw11⟩
theorem flX11_99 : ax_fl RX11 99 11 42 := ⟨(RX11, TX11, 46), rfl, by decide, ax_inT 5 128 (by decide +kernel), cw11⟩
theorem flX11_102 : ax_fl RX11 102 11 43 := ⟨(RX11, TX11, 46), rfl, by decide, ax_inT 5 129 (by decide +kernel), cw11⟩
theorem flX11_105 : ax_fl RX11 105 11 44 := ⟨(RX11, TX11, 46), rfl, by decide, ax_inT 5 130 (by decide +kernel), cw11⟩
theorem flX11_108 : ax_fl RX11 108 11 45 := ⟨(RX11, TX11, 46), rfl, by decide, ax_inT 5 131 (by decide +kernel), cw11⟩
theorem flX11_113 : ax_fl RX11 113 11 3 := ⟨(RX11, TX11, 46), rfl, by decide, ax_inT 5 89 (by decide +kernel), cw11⟩
theorem flX11_133 : ax_fl RX11 133 11 6 := ⟨(RX11, TX11, 46), rfl, by decide, ax_inT 5 92 (by decide +kernel), cw11⟩
theorem flX11_222 : ax_fl RX11 222 11 17 := ⟨(RX11, TX11, 46), rfl, by decide, ax_inT 5 103 (by decide +kernel), cw11⟩
theorem flX11_225 : ax_fl RX11 225 11 16 := ⟨(RX11, TX11, 46), rfl, by decide, ax_inT 5 102 (by decide +kernel), cw11⟩
theorem flX11_236 : ax_fl RX11 236 11 18 := ⟨(RX11, TX11, 46), rfl, by decide, ax_inT 5 104 (by decide +kernel), cw11⟩
theorem flX11_275 : ax_fl RX11 275 11 20 := ⟨(RX11, TX11, 46), rfl, by decide, ax_inT 5 106 (by decide +kernel), cw11⟩
theorem flX11_333 : ax_fl RX11 333 11 29 := ⟨(RX11, TX11, 46), rfl, by decide, ax_inT 5 115 (by decide +kernel), cw11⟩
theorem flX11_336 : ax_fl RX11 336 11 30 := ⟨(RX11, TX11, 46), rfl, by decide, ax_inT 5 116 (by decide +kernel), cw11⟩
theorem flX11_339 : ax_fl RX11 339 11 33 := ⟨(RX11, TX11, 46), rfl, by decide, ax_inT 5 119 (by decide +kernel), cw11⟩
theorem flX11_346 : ax_fl RX11 346 11 31 := ⟨(RX11, TX11, 46), rfl, by decide, ax_inT 5 117 (by decide +kernel), cw11⟩
theorem flX11_352 : ax_fl RX11 352 11 32 := ⟨(RX11, TX11, 46), rfl, by decide, ax_inT 5 118 (by decide +kernel), cw11⟩
theorem flX11_407 : ax_fl RX11 407 11 39 := ⟨(RX11, TX11, 46), rfl, by decide, ax_inT 5 125 (by decide +kernel), cw11⟩
theorem flX11_437 : ax_fl RX11 437 11 4 := ⟨(RX11, TX11, 46), rfl, by decide, ax_inT 5 90 (by decide +kernel), cw11⟩
theorem ax_use_code (y : MethodName) (b : ByteArray) (n : Nat) (r : Option FieldType) : ax_use (Cond.code y b n r) = true := rfl
theorem ax_inC (k i : Nat) {y : MethodName} {b : ByteArray} {n : Nat} {r : Option FieldType} (h : (ax_tb k)[i]? = some (Cond.code y b n r)) : Cond.code y b n r ∈ lw_use := List.mem_filter.mpr ⟨ax_tb_in k _ (List.mem_of_getElem? h), ax_use_code y b n r⟩
theorem miX10 : Cond.initialized RX10 ∈ lw_use := ax_inT 1 1 (by decide +kernel)
theorem miX0 : Cond.initialized RX0 ∈ lw_use := ax_inT 1 7 (by decide +kernel)
theorem miX1 : Cond.initialized RX1 ∈ lw_use := ax_inT 1 4 (by decide +kernel)
theorem miX2 : Cond.initialized RX2 ∈ lw_use := ax_inT 1 9 (by decide +kernel)
theorem miX3 : Cond.initialized RX3 ∈ lw_use := ax_inT 1 8 (by decide +kernel)
theorem miX4 : Cond.initialized RX4 ∈ lw_use := ax_inT 1 10 (by decide +kernel)
theorem miX5 : Cond.initialized RX5 ∈ lw_use := ax_inT 1 11 (by decide +kernel)
theorem miX6 : Cond.initialized RX6 ∈ lw_use := ax_inT 1 12 (by decide +kernel)
theorem miX7 : Cond.initialized RX7 ∈ lw_use := ax_inT 1 2 (by decide +kernel)
theorem miX8 : Cond.initialized RX8 ∈ lw_use := ax_inT 1 6 (by decide +kernel)
theorem miX9 : Cond.initialized RX9 ∈ lw_use := ax_inT 1 5 (by decide +kernel)
theorem miL : Cond.initialized RL ∈ lw_use := ax_inT 1 0 (by decide +kernel)
theorem miX11 : Cond.initialized RX11 ∈ lw_use := ax_inT 1 13 (by decide +kernel)
theorem miJ9 : Cond.initialized RJ9 ∈ lw_use := ax_inT 1 14 (by decide +kernel)
theorem miJ10 : Cond.initialized RJ10 ∈ lw_use := ax_inT 1 15 (by decide +kernel)
theorem miJ7 : Cond.initialized RJ7 ∈ lw_use := ax_inT 1 3 (by decide +kernel)
theorem mcX7_init : Cond.code yX7_init cX7_init 1 none ∈ lw_use := ax_inC 1 28 rfl
theorem mdX7_init : (yX7_init.cls ≠ "java/lang/invoke/MethodHandle" ∧ yX7_init.cls ≠ "java/lang/invoke/VarHandle" ∧ (parseMethodDescriptor yX7_init.desc).map (fun d => d.parameters.length) = some 0) := by decide +kernel
theorem mhX7_init : Cond.instanceMethod yX7_init ∈ lw_use := ax_inT 1 27 (by decide +kernel)
theorem mlX10_9 : ax_mi RX10 9 yX7_init cX7_init 1 0 := ⟨⟨ax_inT 1 26 (by decide +kernel), miX7, mcX7_init, mdX7_init, by decide⟩, rfl, mhX7_init⟩
theorem mcX1_init : Cond.code yX1_init cX1_init 2 none ∈ lw_use := ax_inC 1 98 rfl
theorem mdX1_init : (yX1_init.cls ≠ "java/lang/invoke/MethodHandle" ∧ yX1_init.cls ≠ "java/lang/invoke/VarHandle" ∧ (parseMethodDescriptor yX1_init.desc).map (fun d => d.parameters.length) = some 0) := by decide +kernel
theorem mhX1_init : Cond.instanceMethod yX1_init ∈ lw_use := ax_inT 1 97 (by decide +kernel)
theorem mlX10_25 : ax_mi RX10 25 yX1_init cX1_init 2 0 := ⟨⟨ax_inT 1 96 (by decide +kernel), miX1, mcX1_init, mdX1_init, by decide⟩, rfl, mhX1_init⟩
theorem mcX9_init : Cond.code yX9_init cX9_init 2 none ∈ lw_use := ax_inC 1 118 rfl
theorem mdX9_init : (yX9_init.cls ≠ "java/lang/invoke/MethodHandle" ∧ yX9_init.cls ≠ "java/lang/invoke/VarHandle" ∧ (parseMethodDescriptor yX9_init.desc).map (fun d => d.parameters.length) = some 0) := by decide +kernel
theorem mhX9_init : Cond.instanceMethod yX9_init ∈ lw_use := ax_inT 1 117 (by decide +kernel)
theorem mlX10_32 : ax_mi RX10 32 yX9_init cX9_init 2 0 := ⟨⟨ax_inT 1 116 (by decide +kernel), miX9, mcX9_init, mdX9_init, by decide⟩, rfl, mhX9_init⟩
theorem mcX0_init : Cond.code yX0_init cX0_init 1 none ∈ lw_use := ax_inC 1 184 rfl
theorem mdX0_init : (yX0_init.cls ≠ "java/lang/invoke/MethodHandle" ∧ yX0_init.cls ≠ "java/lang/invoke/VarHandle" ∧ (parseMethodDescriptor yX0_init.desc).map (fun d => d.parameters.length) = some 0) := by decide +kernel
theorem mhX0_init : Cond.instanceMethod yX0_init ∈ lw_use := ax_inT 1 183 (by decide +kernel)
theorem mlX10_39 : ax_mi RX10 39 yX0_init cX0_init 1 0 := ⟨⟨ax_inT 1 182 (by decide +kernel), miX0, mcX0_init, mdX0_init, by decide⟩, rfl, mhX0_init⟩
theorem mcX3_init : Cond.code yX3_init cX3_init 1 none ∈ lw_use := ax_inC 1 190 rfl
theorem mdX3_init : (yX3_init.cls ≠ "java/lang/invoke/MethodHandle" ∧ yX3_init.cls ≠ "java/lang/invoke/VarHandle" ∧ (parseMethodDescriptor yX3_init.desc).map (fun d => d.parameters.length) = some 0) := by decide +kernel
theorem mhX3_init : Cond.instanceMethod yX3_init ∈ lw_use := ax_inT 1 189 (by decide +kernel)
theorem mlX10_58 : ax_mi RX10 58 yX3_init cX3_init 1 0 := ⟨⟨ax_inT 2 32 (by decide +kernel), miX3, mcX3_init, mdX3_init, by decide⟩, rfl, mhX3_init⟩
theorem mcX2_init : Cond.code yX2_init cX2_init 1 none ∈ lw_use := ax_inC 1 196 rfl
theorem mdX2_init : (yX2_init.cls ≠ "java/lang/invoke/MethodHandle" ∧ yX2_init.cls ≠ "java/lang/invoke/VarHandle" ∧ (parseMethodDescriptor yX2_init.desc).map (fun d => d.parameters.length) = some 0) := by decide +kernel
theorem mhX2_init : Cond.instanceMethod yX2_init ∈ lw_use := ax_inT 1 195 (by decide +kernel)
theorem mlX10_68 : ax_mi RX10 68 yX2_init cX2_init 1 0 := ⟨⟨ax_inT 2 34 (by decide +kernel), miX2, mcX2_init, mdX2_init, by decide⟩, rfl, mhX2_init⟩
theorem mcX4_init : Cond.code yX4_init cX4_init 1 none ∈ lw_use := ax_inC 2 39 rfl
theorem mdX4_init : (yX4_init.cls ≠ "java/lang/invoke/MethodHandle" ∧ yX4_init.cls ≠ "java/lang/invoke/VarHandle" ∧ (parseMethodDescriptor yX4_init.desc).map (fun d => d.parameters.length) = some 0) := by decide +kernel
theorem mhX4_init : Cond.instanceMethod yX4_init ∈ lw_use := ax_inT 2 38 (by decide +kernel)
theorem mlX10_78 : ax_mi RX10 78 yX4_init cX4_init 1 0 := ⟨⟨ax_inT 2 37 (by decide +kernel), miX4, mcX4_init, mdX4_init, by decide⟩, rfl, mhX4_init⟩
theorem mcX5_init : Cond.code yX5_init cX5_init 1 none ∈ lw_use := ax_inC 2 52 rfl
theorem mdX5_init : (yX5_init.cls ≠ "java/lang/invoke/MethodHandle" ∧ yX5_init.cls ≠ "java/lang/invoke/VarHandle" ∧ (parseMethodDescriptor yX5_init.desc).map (fun d => d.parameters.length) = some 0) := by decide +kernel
theorem mhX5_init : Cond.instanceMethod yX5_init ∈ lw_use := ax_inT 2 51 (by decide +kernel)
theorem mlX10_96 : ax_mi RX10 96 yX5_init cX5_init 1 0 := ⟨⟨ax_inT 2 50 (by decide +kernel), miX5, mcX5_init, mdX5_init, by decide⟩, rfl, mhX5_init⟩
theorem mcX6_init : Cond.code yX6_init cX6_init 1 none ∈ lw_use := ax_inC 2 70 rfl
theorem mdX6_init : (yX6_init.cls ≠ "java/lang/invoke/MethodHandle" ∧ yX6_init.cls ≠ "java/lang/invoke/VarHandle" ∧ (parseMethodDescriptor yX6_init.desc).map (fun d => d.parameters.length) = some 0) := by decide +kernel
theorem mhX6_init : Cond.instanceMethod yX6_init ∈ lw_use := ax_inT 2 69 (by decide +kernel)
theorem mlX10_97 : ax_mi RX10 97 yX6_init cX6_init 1 0 := ⟨⟨ax_inT 2 68 (by decide +kernel), miX6, mcX6_init, mdX6_init, by decide⟩, rfl, mhX6_init⟩
theorem mcX10_isGroup : Cond.code yX10_isGroup cX10_isGroup 1 (some .boolean) ∈ lw_use := ax_inC 2 147 rfl
theorem mdX10_isGroup : (yX10_isGroup.cls ≠ "java/lang/invoke/MethodHandle" ∧ yX10_isGroup.cls ≠ "java/lang/invoke/VarHandle" ∧ (parseMethodDescriptor yX10_isGroup.desc).map (fun d => d.parameters.length) = some 1) := by decide +kernel
theorem msX10_isGroup : Cond.static yX10_isGroup ∈ lw_use := ax_inT 2 146 (by decide +kernel)
theorem mlX10_98 : ax_ms RX10 98 yX10_isGroup cX10_isGroup 1 (some .boolean) 1 := ⟨⟨ax_inT 2 145 (by decide +kernel), miX10, mcX10_isGroup, mdX10_isGroup, by decide⟩, msX10_isGroup⟩
theorem mcX1_remember : Cond.code yX1_remember cX1_remember 2 none ∈ lw_use := ax_inC 2 151 rfl
theorem mdX1_remember : (yX1_remember.cls ≠ "java/lang/invoke/MethodHandle" ∧ yX1_remember.cls ≠ "java/lang/invoke/VarHandle" ∧ (parseMethodDescriptor yX1_remember.desc).map (fun d => d.parameters.length) = some 1) := by decide +kernel
theorem mhX1_remember : Cond.instanceMethod yX1_remember ∈ lw_use := ax_inT 2 149 (by decide +kernel)
theorem meX1_remember : Cond.selects yX1_remember.cls yX1_remember yX1_remember ∈ lw_use := ax_inT 2 150 (by decide +kernel)
theorem mlX10_102 : ax_mv RX10 102 yX1_remember cX1_remember 2 none 1 := ⟨⟨ax_inT 2 148 (by decide +kernel), miX1, mcX1_remember, mdX1_remember, by decide⟩, mhX1_remember, meX1_remember⟩
theorem mcX7_renewGroup : Cond.code yX7_renewGroup cX7_renewGroup 4 none ∈ lw_use := ax_inC 2 169 rfl
theorem mdX7_renewGroup : (yX7_renewGroup.cls ≠ "java/lang/invoke/MethodHandle" ∧ yX7_renewGroup.cls ≠ "java/lang/invoke/VarHandle" ∧ (parseMethodDescriptor yX7_renewGroup.desc).map (fun d => d.parameters.length) = some 2) := by decide +kernel
theorem mhX7_renewGroup : Cond.instanceMethod yX7_renewGroup ∈ lw_use := ax_inT 2 167 (by decide +kernel)
theorem meX7_renewGroup : Cond.selects yX7_renewGroup.cls yX7_renewGroup yX7_renewGroup ∈ lw_use := ax_inT 2 168 (by decide +kernel)
theorem mlX10_110 : ax_mv RX10 110 yX7_renewGroup cX7_renewGroup 4 none 2 := ⟨⟨ax_inT 2 166 (by decide +kernel), miX7, mcX7_renewGroup, mdX7_renewGroup, by decide⟩, mhX7_renewGroup, meX7_renewGroup⟩
theorem mcX10_areWithin : Cond.code yX10_areWithin cX10_areWithin 4 (some .boolean) ∈ lw_use := ax_inC 2 176 rfl
theorem mdX10_areWithin : (yX10_areWithin.cls ≠ "java/lang/invoke/MethodHandle" ∧ yX10_areWithin.cls ≠ "java/lang/invoke/VarHandle" ∧ (parseMethodDescriptor yX10_areWithin.desc).map (fun d => d.parameters.length) = some 4) := by decide +kernel
theorem msX10_areWithin : Cond.static yX10_areWithin ∈ lw_use := ax_inT 2 175 (by decide +kernel)
theorem mlX10_114 : ax_ms RX10 114 yX10_areWithin cX10_areWithin 4 (some .boolean) 4 := ⟨⟨ax_inT 2 174 (by decide +kernel), miX10, mcX10_areWithin, mdX10_areWithin, by decide⟩, msX10_areWithin⟩
theorem mcX10_tell : Cond.code yX10_tell cX10_tell 6 none ∈ lw_use := ax_inC 2 183 rfl
theorem mdX10_tell : (yX10_tell.cls ≠ "java/lang/invoke/MethodHandle" ∧ yX10_tell.cls ≠ "java/lang/invoke/VarHandle" ∧ (parseMethodDescriptor yX10_tell.desc).map (fun d => d.parameters.length) = some 4) := by decide +kernel
theorem mhX10_tell : Cond.instanceMethod yX10_tell ∈ lw_use := ax_inT 2 182 (by decide +kernel)
theorem meX10_tell : Cond.selects yX10_tell.cls yX10_tell yX10_tell ∈ lw_use := ax_inT 8 0 (by decide +kernel)
theorem mlX10_121 : ax_mv RX10 121 yX10_tell cX10_tell 6 none 4 := ⟨⟨ax_inT 2 180 (by decide +kernel), miX10, mcX10_tell, mdX10_tell, by decide⟩, mhX10_tell, meX10_tell⟩
theorem mcX7_takeRelation : Cond.code yX7_takeRelation cX7_takeRelation 5 none ∈ lw_use := ax_inC 2 187 rfl
theorem mdX7_takeRelation : (yX7_takeRelation.cls ≠ "java/lang/invoke/MethodHandle" ∧ yX7_takeRelation.cls ≠ "java/lang/invoke/VarHandle" ∧ (parseMethodDescriptor yX7_takeRelation.desc).map (fun d => d.parameters.length) = some 2) := by decide +kernel
theorem mhX7_takeRelation : Cond.instanceMethod yX7_takeRelation ∈ lw_use := ax_inT 2 185 (by decide +kernel)
theorem meX7_takeRelation : Cond.selects yX7_takeRelation.cls yX7_takeRelation yX7_takeRelation ∈ lw_use := ax_inT 2 186 (by decide +kernel)
theorem mlX10_125 : ax_mv RX10 125 yX7_takeRelation cX7_takeRelation 5 none 2 := ⟨⟨ax_inT 2 184 (by decide +kernel), miX7, mcX7_takeRelation, mdX7_takeRelation, by decide⟩, mhX7_takeRelation, meX7_takeRelation⟩
theorem mcX10_workOutRings : Cond.code yX10_workOutRings cX10_workOutRings 3 none ∈ lw_use := ax_inC 2 195 rfl
theorem mdX10_workOutRings : (yX10_workOutRings.cls ≠ "java/lang/invoke/MethodHandle" ∧ yX10_workOutRings.cls ≠ "java/lang/invoke/VarHandle" ∧ (parseMethodDescriptor yX10_workOutRings.desc).map (fun d => d.parameters.length) = some 2) := by decide +kernel
theorem mhX10_workOutRings : Cond.instanceMethod yX10_workOutRings ∈ lw_use := ax_inT 2 194 (by decide +kernel)
theorem meX10_workOutRings : Cond.selects yX10_workOutRings.cls yX10_workOutRings yX10_workOutRings ∈ lw_use := ax_inT 8 1 (by decide +kernel)
theorem mlX10_129 : ax_mv RX10 129 yX10_workOutRings cX10_workOutRings 3 none 2 := ⟨⟨ax_inT 2 192 (by decide +kernel), miX10, mcX10_workOutRings, mdX10_workOutRings, by decide⟩, mhX10_workOutRings, meX10_workOutRings⟩
theorem mcX4_countOwn : Cond.code yX4_countOwn cX4_countOwn 3 (some .int) ∈ lw_use := ax_inC 3 21 rfl
theorem mdX4_countOwn : (yX4_countOwn.cls ≠ "java/lang/invoke/MethodHandle" ∧ yX4_countOwn.cls ≠ "java/lang/invoke/VarHandle" ∧ (parseMethodDescriptor yX4_countOwn.desc).map (fun d => d.parameters.length) = some 0) := by decide +kernel
theorem mhX4_countOwn : Cond.instanceMethod yX4_countOwn ∈ lw_use := ax_inT 3 19 (by decide +kernel)
theorem meX4_countOwn : Cond.selects yX4_countOwn.cls yX4_countOwn yX4_countOwn ∈ lw_use := ax_inT 3 20 (by decide +kernel)
theorem mlX10_133 : ax_mv RX10 133 yX4_countOwn cX4_countOwn 3 (some .int) 0 := ⟨⟨ax_inT 3 18 (by decide +kernel), miX4, mcX4_countOwn, mdX4_countOwn, by decide⟩, mhX4_countOwn, meX4_countOwn⟩
theorem mcX7_fillNothing : Cond.code yX7_fillNothing cX7_fillNothing 5 none ∈ lw_use := ax_inC 2 199 rfl
theorem mdX7_fillNothing : (yX7_fillNothing.cls ≠ "java/lang/invoke/MethodHandle" ∧ yX7_fillNothing.cls ≠ "java/lang/invoke/VarHandle" ∧ (parseMethodDescriptor yX7_fillNothing.desc).map (fun d => d.parameters.length) = some 2) := by decide +kernel
theorem mhX7_fillNothing : Cond.instanceMethod yX7_fillNothing ∈ lw_use := ax_inT 2 197 (by decide +kernel)
theorem meX7_fillNothing : Cond.selects yX7_fillNothing.cls yX7_fillNothing yX7_fillNothing ∈ lw_use := ax_inT 2 198 (by decide +kernel)
theorem mlX10_137 : ax_mv RX10 137 yX7_fillNothing cX7_fillNothing 5 none 2 := ⟨⟨ax_inT 2 196 (by decide +kernel), miX7, mcX7_fillNothing, mdX7_fillNothing, by decide⟩, mhX7_fillNothing, meX7_fillNothing⟩
theorem mcX2_index : Cond.code yX2_index cX2_index 4 (some .long) ∈ lw_use := ax_inC 3 7 rfl
theorem mdX2_index : (yX2_index.cls ≠ "java/lang/invoke/MethodHandle" ∧ yX2_index.cls ≠ "java/lang/invoke/VarHandle" ∧ (parseMethodDescriptor yX2_index.desc).map (fun d => d.parameters.length) = some 0) := by decide +kernel
theorem mhX2_index : Cond.instanceMethod yX2_index ∈ lw_use := ax_inT 3 5 (by decide +kernel)
theorem meX2_index : Cond.selects yX2_index.cls yX2_index yX2_index ∈ lw_use := ax_inT 3 6 (by decide +kernel)
theorem mlX10_141 : ax_mv RX10 141 yX2_index cX2_index 4 (some .long) 0 := ⟨⟨ax_inT 3 22 (by decide +kernel), miX2, mcX2_index, mdX2_index, by decide⟩, mhX2_index, meX2_index⟩
theorem mcX10_isPlace : Cond.code yX10_isPlace cX10_isPlace 3 (some .boolean) ∈ lw_use := ax_inC 3 30 rfl
theorem mdX10_isPlace : (yX10_isPlace.cls ≠ "java/lang/invoke/MethodHandle" ∧ yX10_isPlace.cls ≠ "java/lang/invoke/VarHandle" ∧ (parseMethodDescriptor yX10_isPlace.desc).map (fun d => d.parameters.length) = some 2) := by decide +kernel
theorem mhX10_isPlace : Cond.instanceMethod yX10_isPlace ∈ lw_use := ax_inT 3 29 (by decide +kernel)
theorem meX10_isPlace : Cond.selects yX10_isPlace.cls yX10_isPlace yX10_isPlace ∈ lw_use := ax_inT 8 6 (by decide +kernel)
theorem mlX10_145 : ax_mv RX10 145 yX10_isPlace cX10_isPlace 3 (some .boolean) 2 := ⟨⟨ax_inT 3 27 (by decide +kernel), miX10, mcX10_isPlace, mdX10_isPlace, by decide⟩, mhX10_isPlace, meX10_isPlace⟩
theorem mcX2_lead : Cond.code yX2_lead cX2_lead 2 (some .long) ∈ lw_use := ax_inC 3 38 rfl
theorem mdX2_lead : (yX2_lead.cls ≠ "java/lang/invoke/MethodHandle" ∧ yX2_lead.cls ≠ "java/lang/invoke/VarHandle" ∧ (parseMethodDescriptor yX2_lead.desc).map (fun d => d.parameters.length) = some 1) := by decide +kernel
theorem mhX2_lead : Cond.instanceMethod yX2_lead ∈ lw_use := ax_inT 3 36 (by decide +kernel)
theorem meX2_lead : Cond.selects yX2_lead.cls yX2_lead yX2_lead ∈ lw_use := ax_inT 3 37 (by decide +kernel)
theorem mlX10_152 : ax_mv RX10 152 yX2_lead cX2_lead 2 (some .long) 1 := ⟨⟨ax_inT 3 35 (by decide +kernel), miX2, mcX2_lead, mdX2_lead, by decide⟩, mhX2_lead, meX2_lead⟩
theorem mcX10_isElement : Cond.code yX10_isElement cX10_isElement 3 (some .boolean) ∈ lw_use := ax_inC 3 45 rfl
theorem mdX10_isElement : (yX10_isElement.cls ≠ "java/lang/invoke/MethodHandle" ∧ yX10_isElement.cls ≠ "java/lang/invoke/VarHandle" ∧ (parseMethodDescriptor yX10_isElement.desc).map (fun d => d.parameters.length) = some 3) := by decide +kernel
theorem msX10_isElement : Cond.static yX10_isElement ∈ lw_use := ax_inT 3 44 (by decide +kernel)
theorem mlX10_156 : ax_ms RX10 156 yX10_isElement cX10_isElement 3 (some .boolean) 3 := ⟨⟨ax_inT 3 43 (by decide +kernel), miX10, mcX10_isElement, mdX10_isElement, by decide⟩, msX10_isElement⟩
theorem mcX10_refused : Cond.code yX10_refused cX10_refused 1 (some .long) ∈ lw_use := ax_inC 3 48 rfl
theorem mdX10_refused : (yX10_refused.cls ≠ "java/lang/invoke/MethodHandle" ∧ yX10_refused.cls ≠ "java/lang/invoke/VarHandle" ∧ (parseMethodDescriptor yX10_refused.desc).map (fun d => d.parameters.length) = some 1) := by decide +kernel
theorem msX10_refused : Cond.static yX10_refused ∈ lw_use := ax_inT 3 47 (by decide +kernel)
theorem mlX10_160 : ax_ms RX10 160 yX10_refused cX10_refused 1 (some .long) 1 := ⟨⟨ax_inT 3 46 (by decide +kernel), miX10, mcX10_refused, mdX10_refused, by decide⟩, msX10_refused⟩
theorem mcX2_reduce : Cond.code yX2_reduce cX2_reduce 2 none ∈ lw_use := ax_inC 3 53 rfl
theorem mdX2_reduce : (yX2_reduce.cls ≠ "java/lang/invoke/MethodHandle" ∧ yX2_reduce.cls ≠ "java/lang/invoke/VarHandle" ∧ (parseMethodDescriptor yX2_reduce.desc).map (fun d => d.parameters.length) = some 1) := by decide +kernel
theorem mhX2_reduce : Cond.instanceMethod yX2_reduce ∈ lw_use := ax_inT 3 51 (by decide +kernel)
theorem meX2_reduce : Cond.selects yX2_reduce.cls yX2_reduce yX2_reduce ∈ lw_use := ax_inT 3 52 (by decide +kernel)
theorem mlX10_163 : ax_mv RX10 163 yX2_reduce cX2_reduce 2 none 1 := ⟨⟨ax_inT 3 50 (by decide +kernel), miX2, mcX2_reduce, mdX2_reduce, by decide⟩, mhX2_reduce, meX2_reduce⟩
theorem mcX2_orderOf : Cond.code yX2_orderOf cX2_orderOf 10 (some .long) ∈ lw_use := ax_inC 3 61 rfl
theorem mdX2_orderOf : (yX2_orderOf.cls ≠ "java/lang/invoke/MethodHandle" ∧ yX2_orderOf.cls ≠ "java/lang/invoke/VarHandle" ∧ (parseMethodDescriptor yX2_orderOf.desc).map (fun d => d.parameters.length) = some 1) := by decide +kernel
theorem mhX2_orderOf : Cond.instanceMethod yX2_orderOf ∈ lw_use := ax_inT 3 59 (by decide +kernel)
theorem meX2_orderOf : Cond.selects yX2_orderOf.cls yX2_orderOf yX2_orderOf ∈ lw_use := ax_inT 3 60 (by decide +kernel)
theorem mlX10_167 : ax_mv RX10 167 yX2_orderOf cX2_orderOf 10 (some .long) 1 := ⟨⟨ax_inT 3 58 (by decide +kernel), miX2, mcX2_orderOf, mdX2_orderOf, by decide⟩, mhX2_orderOf, meX2_orderOf⟩
theorem mcX4_haveSameOwn : Cond.code yX4_haveSameOwn cX4_haveSameOwn 4 (some .boolean) ∈ lw_use := ax_inC 3 69 rfl
theorem mdX4_haveSameOwn : (yX4_haveSameOwn.cls ≠ "java/lang/invoke/MethodHandle" ∧ yX4_haveSameOwn.cls ≠ "java/lang/invoke/VarHandle" ∧ (parseMethodDescriptor yX4_haveSameOwn.desc).map (fun d => d.parameters.length) = some 1) := by decide +kernel
theorem mhX4_haveSameOwn : Cond.instanceMethod yX4_haveSameOwn ∈ lw_use := ax_inT 3 67 (by decide +kernel)
theorem meX4_haveSameOwn : Cond.selects yX4_haveSameOwn.cls yX4_haveSameOwn yX4_haveSameOwn ∈ lw_use := ax_inT 3 68 (by decide +kernel)
theorem mlX10_171 : ax_mv RX10 171 yX4_haveSameOwn cX4_haveSameOwn 4 (some .boolean) 1 := ⟨⟨ax_inT 3 66 (by decide +kernel), miX4, mcX4_haveSameOwn, mdX4_haveSameOwn, by decide⟩, mhX4_haveSameOwn, meX4_haveSameOwn⟩
theorem mcX4_ofTwoGroups : Cond.code yX4_ofTwoGroups cX4_ofTwoGroups 6 none ∈ lw_use := ax_inC 3 82 rfl
theorem mdX4_ofTwoGroups : (yX4_ofTwoGroups.cls ≠ "java/lang/invoke/MethodHandle" ∧ yX4_ofTwoGroups.cls ≠ "java/lang/invoke/VarHandle" ∧ (parseMethodDescriptor yX4_ofTwoGroups.desc).map (fun d => d.parameters.length) = some 3) := by decide +kernel
theorem mhX4_ofTwoGroups : Cond.instanceMethod yX4_ofTwoGroups ∈ lw_use := ax_inT 3 80 (by decide +kernel)
theorem meX4_ofTwoGroups : Cond.selects yX4_ofTwoGroups.cls yX4_ofTwoGroups yX4_ofTwoGroups ∈ lw_use := ax_inT 3 81 (by decide +kernel)
theorem mlX10_175 : ax_mv RX10 175 yX4_ofTwoGroups cX4_ofTwoGroups 6 none 3 := ⟨⟨ax_inT 3 79 (by decide +kernel), miX4, mcX4_ofTwoGroups, mdX4_ofTwoGroups, by decide⟩, mhX4_ofTwoGroups, meX4_ofTwoGroups⟩
theorem mcX10_ownRing : Cond.code yX10_ownRing cX10_ownRing 3 (some .int) ∈ lw_use := ax_inC 3 101 rfl
theorem mdX10_ownRing : (yX10_ownRing.cls ≠ "java/lang/invoke/MethodHandle" ∧ yX10_ownRing.cls ≠ "java/lang/invoke/VarHandle" ∧ (parseMethodDescriptor yX10_ownRing.desc).map (fun d => d.parameters.length) = some 2) := by decide +kernel
theorem msX10_ownRing : Cond.static yX10_ownRing ∈ lw_use := ax_inT 3 100 (by decide +kernel)
theorem mlX10_179 : ax_ms RX10 179 yX10_ownRing cX10_ownRing 3 (some .int) 2 := ⟨⟨ax_inT 3 99 (by decide +kernel), miX10, mcX10_ownRing, mdX10_ownRing, by decide⟩, msX10_ownRing⟩
theorem mcX10_isSheet : Cond.code yX10_isSheet cX10_isSheet 1 (some .boolean) ∈ lw_use := ax_inC 3 109 rfl
theorem mdX10_isSheet : (yX10_isSheet.cls ≠ "java/lang/invoke/MethodHandle" ∧ yX10_isSheet.cls ≠ "java/lang/invoke/VarHandle" ∧ (parseMethodDescriptor yX10_isSheet.desc).map (fun d => d.parameters.length) = some 1) := by decide +kernel
theorem msX10_isSheet : Cond.static yX10_isSheet ∈ lw_use := ax_inT 3 108 (by decide +kernel)
theorem mlX10_183 : ax_ms RX10 183 yX10_isSheet cX10_isSheet 1 (some .boolean) 1 := ⟨⟨ax_inT 3 107 (by decide +kernel), miX10, mcX10_isSheet, mdX10_isSheet, by decide⟩, msX10_isSheet⟩
theorem mcX5_refusal : Cond.code yX5_refusal cX5_refusal 5 (some .int) ∈ lw_use := ax_inC 3 113 rfl
theorem mdX5_refusal : (yX5_refusal.cls ≠ "java/lang/invoke/MethodHandle" ∧ yX5_refusal.cls ≠ "java/lang/invoke/VarHandle" ∧ (parseMethodDescriptor yX5_refusal.desc).map (fun d => d.parameters.length) = some 3) := by decide +kernel
theorem mhX5_refusal : Cond.instanceMethod yX5_refusal ∈ lw_use := ax_inT 3 111 (by decide +kernel)
theorem meX5_refusal : Cond.selects yX5_refusal.cls yX5_refusal yX5_refusal ∈ lw_use := ax_inT 3 112 (by decide +kernel)
theorem mlX10_186 : ax_mv RX10 186 yX5_refusal cX5_refusal 5 (some .int) 3 := ⟨⟨ax_inT 3 110 (by decide +kernel), miX5, mcX5_refusal, mdX5_refusal, by decide⟩, mhX5_refusal, meX5_refusal⟩
theorem mcX5_areWithin : Cond.code yX5_areWithin cX5_areWithin 6 (some .boolean) ∈ lw_use := ax_inC 3 118 rfl
theorem mdX5_areWithin : (yX5_areWithin.cls ≠ "java/lang/invoke/MethodHandle" ∧ yX5_areWithin.cls ≠ "java/lang/invoke/VarHandle" ∧ (parseMethodDescriptor yX5_areWithin.desc).map (fun d => d.parameters.length) = some 3) := by decide +kernel
theorem mhX5_areWithin : Cond.instanceMethod yX5_areWithin ∈ lw_use := ax_inT 3 116 (by decide +kernel)
theorem meX5_areWithin : Cond.selects yX5_areWithin.cls yX5_areWithin yX5_areWithin ∈ lw_use := ax_inT 3 117 (by decide +kernel)
theorem mlX10_192 : ax_mv RX10 192 yX5_areWithin cX5_areWithin 6 (some .boolean) 3 := ⟨⟨ax_inT 3 115 (by decide +kernel), miX5, mcX5_areWithin, mdX5_areWithin, by decide⟩, mhX5_areWithin, meX5_areWithin⟩
theorem mcX2_insert : Cond.code yX2_insert cX2_insert 2 none ∈ lw_use := ax_inC 3 122 rfl
theorem mdX2_insert : (yX2_insert.cls ≠ "java/lang/invoke/MethodHandle" ∧ yX2_insert.cls ≠ "java/lang/invoke/VarHandle" ∧ (parseMethodDescriptor yX2_insert.desc).map (fun d => d.parameters.length) = some 1) := by decide +kernel
theorem mhX2_insert : Cond.instanceMethod yX2_insert ∈ lw_use := ax_inT 3 120 (by decide +kernel)
theorem meX2_insert : Cond.selects yX2_insert.cls yX2_insert yX2_insert ∈ lw_use := ax_inT 3 121 (by decide +kernel)
theorem mlX10_198 : ax_mv RX10 198 yX2_insert cX2_insert 2 none 1 := ⟨⟨ax_inT 3 119 (by decide +kernel), miX2, mcX2_insert, mdX2_insert, by decide⟩, mhX2_insert, meX2_insert⟩
theorem mcX2_indexWithin : Cond.code yX2_indexWithin cX2_indexWithin 7 (some .long) ∈ lw_use := ax_inC 3 128 rfl
theorem mdX2_indexWithin : (yX2_indexWithin.cls ≠ "java/lang/invoke/MethodHandle" ∧ yX2_indexWithin.cls ≠ "java/lang/invoke/VarHandle" ∧ (parseMethodDescriptor yX2_indexWithin.desc).map (fun d => d.parameters.length) = some 1) := by decide +kernel
theorem mhX2_indexWithin : Cond.instanceMethod yX2_indexWithin ∈ lw_use := ax_inT 3 126 (by decide +kernel)
theorem meX2_indexWithin : Cond.selects yX2_indexWithin.cls yX2_indexWithin yX2_indexWithin ∈ lw_use := ax_inT 3 127 (by decide +kernel)
theorem mlX10_201 : ax_mv RX10 201 yX2_indexWithin cX2_indexWithin 7 (some .long) 1 := ⟨⟨ax_inT 3 125 (by decide +kernel), miX2, mcX2_indexWithin, mdX2_indexWithin, by decide⟩, mhX2_indexWithin, meX2_indexWithin⟩
theorem mcX10_isMapNumber : Cond.code yX10_isMapNumber cX10_isMapNumber 1 (some .boolean) ∈ lw_use := ax_inC 3 139 rfl
theorem mdX10_isMapNumber : (yX10_isMapNumber.cls ≠ "java/lang/invoke/MethodHandle" ∧ yX10_isMapNumber.cls ≠ "java/lang/invoke/VarHandle" ∧ (parseMethodDescriptor yX10_isMapNumber.desc).map (fun d => d.parameters.length) = some 1) := by decide +kernel
theorem msX10_isMapNumber : Cond.static yX10_isMapNumber ∈ lw_use := ax_inT 3 138 (by decide +kernel)
theorem mlX10_205 : ax_ms RX10 205 yX10_isMapNumber cX10_isMapNumber 1 (some .boolean) 1 := ⟨⟨ax_inT 3 137 (by decide +kernel), miX10, mcX10_isMapNumber, mdX10_isMapNumber, by decide⟩, msX10_isMapNumber⟩
theorem mcX7_renewMap : Cond.code yX7_renewMap cX7_renewMap 4 none ∈ lw_use := ax_inC 3 143 rfl
theorem mdX7_renewMap : (yX7_renewMap.cls ≠ "java/lang/invoke/MethodHandle" ∧ yX7_renewMap.cls ≠ "java/lang/invoke/VarHandle" ∧ (parseMethodDescriptor yX7_renewMap.desc).map (fun d => d.parameters.length) = some 3) := by decide +kernel
theorem mhX7_renewMap : Cond.instanceMethod yX7_renewMap ∈ lw_use := ax_inT 3 141 (by decide +kernel)
theorem meX7_renewMap : Cond.selects yX7_renewMap.cls yX7_renewMap yX7_renewMap ∈ lw_use := ax_inT 3 142 (by decide +kernel)
theorem mlX10_208 : ax_mv RX10 208 yX7_renewMap cX7_renewMap 4 none 3 := ⟨⟨ax_inT 3 140 (by decide +kernel), miX7, mcX7_renewMap, mdX7_renewMap, by decide⟩, mhX7_renewMap, meX7_renewMap⟩
theorem mcX10_isCell : Cond.code yX10_isCell cX10_isCell 4 (some .boolean) ∈ lw_use := ax_inC 3 157 rfl
theorem mdX10_isCell : (yX10_isCell.cls ≠ "java/lang/invoke/MethodHandle" ∧ yX10_isCell.cls ≠ "java/lang/invoke/VarHandle" ∧ (parseMethodDescriptor yX10_isCell.desc).map (fun d => d.parameters.length) = some 3) := by decide +kernel
theorem mhX10_isCell : Cond.instanceMethod yX10_isCell ∈ lw_use := ax_inT 3 156 (by decide +kernel)
theorem meX10_isCell : Cond.selects yX10_isCell.cls yX10_isCell yX10_isCell ∈ lw_use := ax_inT 8 10 (by decide +kernel)
theorem mlX10_212 : ax_mv RX10 212 yX10_isCell cX10_isCell 4 (some .boolean) 3 := ⟨⟨ax_inT 3 154 (by decide +kernel), miX10, mcX10_isCell, mdX10_isCell, by decide⟩, mhX10_isCell, meX10_isCell⟩
theorem mcX10_isMap : Cond.code yX10_isMap cX10_isMap 2 (some .boolean) ∈ lw_use := ax_inC 3 161 rfl
theorem mdX10_isMap : (yX10_isMap.cls ≠ "java/lang/invoke/MethodHandle" ∧ yX10_isMap.cls ≠ "java/lang/invoke/VarHandle" ∧ (parseMethodDescriptor yX10_isMap.desc).map (fun d => d.parameters.length) = some 1) := by decide +kernel
theorem mhX10_isMap : Cond.instanceMethod yX10_isMap ∈ lw_use := ax_inT 3 160 (by decide +kernel)
theorem meX10_isMap : Cond.selects yX10_isMap.cls yX10_isMap yX10_isMap ∈ lw_use := ax_inT 8 11 (by decide +kernel)
theorem mlX10_218 : ax_mv RX10 218 yX10_isMap cX10_isMap 2 (some .boolean) 1 := ⟨⟨ax_inT 3 158 (by decide +kernel), miX10, mcX10_isMap, mdX10_isMap, by decide⟩, mhX10_isMap, meX10_isMap⟩
theorem mcX3_load : Cond.code yX3_load cX3_load 3 (some .boolean) ∈ lw_use := ax_inC 3 177 rfl
theorem mdX3_load : (yX3_load.cls ≠ "java/lang/invoke/MethodHandle" ∧ yX3_load.cls ≠ "java/lang/invoke/VarHandle" ∧ (parseMethodDescriptor yX3_load.desc).map (fun d => d.parameters.length) = some 2) := by decide +kernel
theorem mhX3_load : Cond.instanceMethod yX3_load ∈ lw_use := ax_inT 3 175 (by decide +kernel)
theorem meX3_load : Cond.selects yX3_load.cls yX3_load yX3_load ∈ lw_use := ax_inT 3 176 (by decide +kernel)
theorem mlX10_227 : ax_mv RX10 227 yX3_load cX3_load 3 (some .boolean) 2 := ⟨⟨ax_inT 3 174 (by decide +kernel), miX3, mcX3_load, mdX3_load, by decide⟩, mhX3_load, meX3_load⟩
theorem mcX3_workOut : Cond.code yX3_workOut cX3_workOut 7 none ∈ lw_use := ax_inC 3 200 rfl
theorem mdX3_workOut : (yX3_workOut.cls ≠ "java/lang/invoke/MethodHandle" ∧ yX3_workOut.cls ≠ "java/lang/invoke/VarHandle" ∧ (parseMethodDescriptor yX3_workOut.desc).map (fun d => d.parameters.length) = some 2) := by decide +kernel
theorem mhX3_workOut : Cond.instanceMethod yX3_workOut ∈ lw_use := ax_inT 3 198 (by decide +kernel)
theorem meX3_workOut : Cond.selects yX3_workOut.cls yX3_workOut yX3_workOut ∈ lw_use := ax_inT 3 199 (by decide +kernel)
theorem mlX10_231 : ax_mv RX10 231 yX3_workOut cX3_workOut 7 none 2 := ⟨⟨ax_inT 3 197 (by decide +kernel), miX3, mcX3_workOut, mdX3_workOut, by decide⟩, mhX3_workOut, meX3_workOut⟩
theorem mcX3_isOneToOne : Cond.code yX3_isOneToOne cX3_isOneToOne 1 (some .boolean) ∈ lw_use := ax_inC 3 217 rfl
theorem mdX3_isOneToOne : (yX3_isOneToOne.cls ≠ "java/lang/invoke/MethodHandle" ∧ yX3_isOneToOne.cls ≠ "java/lang/invoke/VarHandle" ∧ (parseMethodDescriptor yX3_isOneToOne.desc).map (fun d => d.parameters.length) = some 0) := by decide +kernel
theorem mhX3_isOneToOne : Cond.instanceMethod yX3_isOneToOne ∈ lw_use := ax_inT 3 215 (by decide +kernel)
theorem meX3_isOneToOne : Cond.selects yX3_isOneToOne.cls yX3_isOneToOne yX3_isOneToOne ∈ lw_use := ax_inT 3 216 (by decide +kernel)
theorem mlX10_235 : ax_mv RX10 235 yX3_isOneToOne cX3_isOneToOne 1 (some .boolean) 0 := ⟨⟨ax_inT 3 214 (by decide +kernel), miX3, mcX3_isOneToOne, mdX3_isOneToOne, by decide⟩, mhX3_isOneToOne, meX3_isOneToOne⟩
theorem mcX3_isOnto : Cond.code yX3_isOnto cX3_isOnto 1 (some .boolean) ∈ lw_use := ax_inC 3 225 rfl
theorem mdX3_isOnto : (yX3_isOnto.cls ≠ "java/lang/invoke/MethodHandle" ∧ yX3_isOnto.cls ≠ "java/lang/invoke/VarHandle" ∧ (parseMethodDescriptor yX3_isOnto.desc).map (fun d => d.parameters.length) = some 0) := by decide +kernel
theorem mhX3_isOnto : Cond.instanceMethod yX3_isOnto ∈ lw_use := ax_inT 3 223 (by decide +kernel)
theorem meX3_isOnto : Cond.selects yX3_isOnto.cls yX3_isOnto yX3_isOnto ∈ lw_use := ax_inT 3 224 (by decide +kernel)
theorem mlX10_239 : ax_mv RX10 239 yX3_isOnto cX3_isOnto 1 (some .boolean) 0 := ⟨⟨ax_inT 3 222 (by decide +kernel), miX3, mcX3_isOnto, mdX3_isOnto, by decide⟩, mhX3_isOnto, meX3_isOnto⟩
theorem mcX7_mapRow : Cond.code yX7_mapRow cX7_mapRow 4 none ∈ lw_use := ax_inC 3 186 rfl
theorem mdX7_mapRow : (yX7_mapRow.cls ≠ "java/lang/invoke/MethodHandle" ∧ yX7_mapRow.cls ≠ "java/lang/invoke/VarHandle" ∧ (parseMethodDescriptor yX7_mapRow.desc).map (fun d => d.parameters.length) = some 3) := by decide +kernel
theorem mhX7_mapRow : Cond.instanceMethod yX7_mapRow ∈ lw_use := ax_inT 3 184 (by decide +kernel)
theorem meX7_mapRow : Cond.selects yX7_mapRow.cls yX7_mapRow yX7_mapRow ∈ lw_use := ax_inT 3 185 (by decide +kernel)
theorem mlX10_242 : ax_mv RX10 242 yX7_mapRow cX7_mapRow 4 none 3 := ⟨⟨ax_inT 3 231 (by decide +kernel), miX7, mcX7_mapRow, mdX7_mapRow, by decide⟩, mhX7_mapRow, meX7_mapRow⟩
theorem mcX3_fillRings : Cond.code yX3_fillRings cX3_fillRings 3 none ∈ lw_use := ax_inC 3 239 rfl
theorem mdX3_fillRings : (yX3_fillRings.cls ≠ "java/lang/invoke/MethodHandle" ∧ yX3_fillRings.cls ≠ "java/lang/invoke/VarHandle" ∧ (parseMethodDescriptor yX3_fillRings.desc).map (fun d => d.parameters.length) = some 2) := by decide +kernel
theorem mhX3_fillRings : Cond.instanceMethod yX3_fillRings ∈ lw_use := ax_inT 3 237 (by decide +kernel)
theorem meX3_fillRings : Cond.selects yX3_fillRings.cls yX3_fillRings yX3_fillRings ∈ lw_use := ax_inT 3 238 (by decide +kernel)
theorem mlX10_249 : ax_mv RX10 249 yX3_fillRings cX3_fillRings 3 none 2 := ⟨⟨ax_inT 3 236 (by decide +kernel), miX3, mcX3_fillRings, mdX3_fillRings, by decide⟩, mhX3_fillRings, meX3_fillRings⟩
theorem mcX3_goBack : Cond.code yX3_goBack cX3_goBack 5 (some .boolean) ∈ lw_use := ax_inC 4 16 rfl
theorem mdX3_goBack : (yX3_goBack.cls ≠ "java/lang/invoke/MethodHandle" ∧ yX3_goBack.cls ≠ "java/lang/invoke/VarHandle" ∧ (parseMethodDescriptor yX3_goBack.desc).map (fun d => d.parameters.length) = some 1) := by decide +kernel
theorem mhX3_goBack : Cond.instanceMethod yX3_goBack ∈ lw_use := ax_inT 4 14 (by decide +kernel)
theorem meX3_goBack : Cond.selects yX3_goBack.cls yX3_goBack yX3_goBack ∈ lw_use := ax_inT 4 15 (by decide +kernel)
theorem mlX10_252 : ax_mv RX10 252 yX3_goBack cX3_goBack 5 (some .boolean) 1 := ⟨⟨ax_inT 4 13 (by decide +kernel), miX3, mcX3_goBack, mdX3_goBack, by decide⟩, mhX3_goBack, meX3_goBack⟩
theorem mcX2_isAs : Cond.code yX2_isAs cX2_isAs 4 (some .boolean) ∈ lw_use := ax_inC 3 221 rfl
theorem mdX2_isAs : (yX2_isAs.cls ≠ "java/lang/invoke/MethodHandle" ∧ yX2_isAs.cls ≠ "java/lang/invoke/VarHandle" ∧ (parseMethodDescriptor yX2_isAs.desc).map (fun d => d.parameters.length) = some 1) := by decide +kernel
theorem mhX2_isAs : Cond.instanceMethod yX2_isAs ∈ lw_use := ax_inT 3 219 (by decide +kernel)
theorem meX2_isAs : Cond.selects yX2_isAs.cls yX2_isAs yX2_isAs ∈ lw_use := ax_inT 3 220 (by decide +kernel)
theorem mlX10_262 : ax_mv RX10 262 yX2_isAs cX2_isAs 4 (some .boolean) 1 := ⟨⟨ax_inT 4 23 (by decide +kernel), miX2, mcX2_isAs, mdX2_isAs, by decide⟩, mhX2_isAs, meX2_isAs⟩
theorem mcX9_take : Cond.code yX9_take cX9_take 5 none ∈ lw_use := ax_inC 4 31 rfl
theorem mdX9_take : (yX9_take.cls ≠ "java/lang/invoke/MethodHandle" ∧ yX9_take.cls ≠ "java/lang/invoke/VarHandle" ∧ (parseMethodDescriptor yX9_take.desc).map (fun d => d.parameters.length) = some 2) := by decide +kernel
theorem mhX9_take : Cond.instanceMethod yX9_take ∈ lw_use := ax_inT 4 29 (by decide +kernel)
theorem meX9_take : Cond.selects yX9_take.cls yX9_take yX9_take ∈ lw_use := ax_inT 4 30 (by decide +kernel)
theorem mlX10_270 : ax_mv RX10 270 yX9_take cX9_take 5 none 2 := ⟨⟨ax_inT 4 28 (by decide +kernel), miX9, mcX9_take, mdX9_take, by decide⟩, mhX9_take, meX9_take⟩
theorem mcX9_read : Cond.code yX9_read cX9_read 2 (some .int) ∈ lw_use := ax_inC 4 39 rfl
theorem mdX9_read : (yX9_read.cls ≠ "java/lang/invoke/MethodHandle" ∧ yX9_read.cls ≠ "java/lang/invoke/VarHandle" ∧ (parseMethodDescriptor yX9_read.desc).map (fun d => d.parameters.length) = some 1) := by decide +kernel
theorem mhX9_read : Cond.instanceMethod yX9_read ∈ lw_use := ax_inT 4 37 (by decide +kernel)
theorem meX9_read : Cond.selects yX9_read.cls yX9_read yX9_read ∈ lw_use := ax_inT 4 38 (by decide +kernel)
theorem mlX10_274 : ax_mv RX10 274 yX9_read cX9_read 2 (some .int) 1 := ⟨⟨ax_inT 4 36 (by decide +kernel), miX9, mcX9_read, mdX9_read, by decide⟩, mhX9_read, meX9_read⟩
theorem mcX9_told : Cond.code yX9_told cX9_told 1 (some (.object "GroupsByRelations$Table")) ∈ lw_use := ax_inC 4 99 rfl
theorem mdX9_told : (yX9_told.cls ≠ "java/lang/invoke/MethodHandle" ∧ yX9_told.cls ≠ "java/lang/invoke/VarHandle" ∧ (parseMethodDescriptor yX9_told.desc).map (fun d => d.parameters.length) = some 0) := by decide +kernel
theorem mhX9_told : Cond.instanceMethod yX9_told ∈ lw_use := ax_inT 4 97 (by decide +kernel)
theorem meX9_told : Cond.selects yX9_told.cls yX9_told yX9_told ∈ lw_use := ax_inT 4 98 (by decide +kernel)
theorem mlX10_278 : ax_mv RX10 278 yX9_told cX9_told 1 (some (.object "GroupsByRelations$Table")) 0 := ⟨⟨ax_inT 4 96 (by decide +kernel), miX9, mcX9_told, mdX9_told, by decide⟩, mhX9_told, meX9_told⟩
theorem mcX8_makeNormal : Cond.code yX8_makeNormal cX8_makeNormal 3 none ∈ lw_use := ax_inC 4 103 rfl
theorem mdX8_makeNormal : (yX8_makeNormal.cls ≠ "java/lang/invoke/MethodHandle" ∧ yX8_makeNormal.cls ≠ "java/lang/invoke/VarHandle" ∧ (parseMethodDescriptor yX8_makeNormal.desc).map (fun d => d.parameters.length) = some 1) := by decide +kernel
theorem mhX8_makeNormal : Cond.instanceMethod yX8_makeNormal ∈ lw_use := ax_inT 4 101 (by decide +kernel)
theorem meX8_makeNormal : Cond.selects yX8_makeNormal.cls yX8_makeNormal yX8_makeNormal ∈ lw_use := ax_inT 4 102 (by decide +kernel)
theorem mlX10_288 : ax_mv RX10 288 yX8_makeNormal cX8_makeNormal 3 none 1 := ⟨⟨ax_inT 4 100 (by decide +kernel), miX8, mcX8_makeNormal, mdX8_makeNormal, by decide⟩, mhX8_makeNormal, meX8_makeNormal⟩
theorem mcX8_isWithin : Cond.code yX8_isWithin cX8_isWithin 4 (some .boolean) ∈ lw_use := ax_inC 4 86 rfl
theorem mdX8_isWithin : (yX8_isWithin.cls ≠ "java/lang/invoke/MethodHandle" ∧ yX8_isWithin.cls ≠ "java/lang/invoke/VarHandle" ∧ (parseMethodDescriptor yX8_isWithin.desc).map (fun d => d.parameters.length) = some 1) := by decide +kernel
theorem mhX8_isWithin : Cond.instanceMethod yX8_isWithin ∈ lw_use := ax_inT 4 84 (by decide +kernel)
theorem meX8_isWithin : Cond.selects yX8_isWithin.cls yX8_isWithin yX8_isWithin ∈ lw_use := ax_inT 4 85 (by decide +kernel)
theorem mlX10_292 : ax_mv RX10 292 yX8_isWithin cX8_isWithin 4 (some .boolean) 1 := ⟨⟨ax_inT 4 105 (by decide +kernel), miX8, mcX8_isWithin, mdX8_isWithin, by decide⟩, mhX8_isWithin, meX8_isWithin⟩
theorem mcX7_takeMap : Cond.code yX7_takeMap cX7_takeMap 4 none ∈ lw_use := ax_inC 4 109 rfl
theorem mdX7_takeMap : (yX7_takeMap.cls ≠ "java/lang/invoke/MethodHandle" ∧ yX7_takeMap.cls ≠ "java/lang/invoke/VarHandle" ∧ (parseMethodDescriptor yX7_takeMap.desc).map (fun d => d.parameters.length) = some 2) := by decide +kernel
theorem mhX7_takeMap : Cond.instanceMethod yX7_takeMap ∈ lw_use := ax_inT 4 107 (by decide +kernel)
theorem meX7_takeMap : Cond.selects yX7_takeMap.cls yX7_takeMap yX7_takeMap ∈ lw_use := ax_inT 4 108 (by decide +kernel)
theorem mlX10_296 : ax_mv RX10 296 yX7_takeMap cX7_takeMap 4 none 2 := ⟨⟨ax_inT 4 106 (by decide +kernel), miX7, mcX7_takeMap, mdX7_takeMap, by decide⟩, mhX7_takeMap, meX7_takeMap⟩
theorem mcX10_readDiagram : Cond.code yX10_readDiagram cX10_readDiagram 4 (some .int) ∈ lw_use := ax_inC 4 117 rfl
theorem mdX10_readDiagram : (yX10_readDiagram.cls ≠ "java/lang/invoke/MethodHandle" ∧ yX10_readDiagram.cls ≠ "java/lang/invoke/VarHandle" ∧ (parseMethodDescriptor yX10_readDiagram.desc).map (fun d => d.parameters.length) = some 2) := by decide +kernel
theorem mhX10_readDiagram : Cond.instanceMethod yX10_readDiagram ∈ lw_use := ax_inT 4 116 (by decide +kernel)
theorem meX10_readDiagram : Cond.selects yX10_readDiagram.cls yX10_readDiagram yX10_readDiagram ∈ lw_use := ax_inT 9 4 (by decide +kernel)
theorem mlX10_300 : ax_mv RX10 300 yX10_readDiagram cX10_readDiagram 4 (some .int) 2 := ⟨⟨ax_inT 4 114 (by decide +kernel), miX10, mcX10_readDiagram, mdX10_readDiagram, by decide⟩, mhX10_readDiagram, meX10_readDiagram⟩
theorem mcX0_isRight : Cond.code yX0_isRight cX0_isRight 3 (some .boolean) ∈ lw_use := ax_inC 4 134 rfl
theorem mdX0_isRight : (yX0_isRight.cls ≠ "java/lang/invoke/MethodHandle" ∧ yX0_isRight.cls ≠ "java/lang/invoke/VarHandle" ∧ (parseMethodDescriptor yX0_isRight.desc).map (fun d => d.parameters.length) = some 1) := by decide +kernel
theorem mhX0_isRight : Cond.instanceMethod yX0_isRight ∈ lw_use := ax_inT 4 132 (by decide +kernel)
theorem meX0_isRight : Cond.selects yX0_isRight.cls yX0_isRight yX0_isRight ∈ lw_use := ax_inT 4 133 (by decide +kernel)
theorem mlX10_304 : ax_mv RX10 304 yX0_isRight cX0_isRight 3 (some .boolean) 1 := ⟨⟨ax_inT 4 131 (by decide +kernel), miX0, mcX0_isRight, mdX0_isRight, by decide⟩, mhX0_isRight, meX0_isRight⟩
theorem mcX0_lowerFirst : Cond.code yX0_lowerFirst cX0_lowerFirst 2 (some .int) ∈ lw_use := ax_inC 4 163 rfl
theorem mdX0_lowerFirst : (yX0_lowerFirst.cls ≠ "java/lang/invoke/MethodHandle" ∧ yX0_lowerFirst.cls ≠ "java/lang/invoke/VarHandle" ∧ (parseMethodDescriptor yX0_lowerFirst.desc).map (fun d => d.parameters.length) = some 1) := by decide +kernel
theorem mhX0_lowerFirst : Cond.instanceMethod yX0_lowerFirst ∈ lw_use := ax_inT 4 161 (by decide +kernel)
theorem meX0_lowerFirst : Cond.selects yX0_lowerFirst.cls yX0_lowerFirst yX0_lowerFirst ∈ lw_use := ax_inT 4 162 (by decide +kernel)
theorem mlX10_308 : ax_mv RX10 308 yX0_lowerFirst cX0_lowerFirst 2 (some .int) 1 := ⟨⟨ax_inT 4 160 (by decide +kernel), miX0, mcX0_lowerFirst, mdX0_lowerFirst, by decide⟩, mhX0_lowerFirst, meX0_lowerFirst⟩
theorem mcX0_upperLast : Cond.code yX0_upperLast cX0_upperLast 2 (some .int) ∈ lw_use := ax_inC 4 167 rfl
theorem mdX0_upperLast : (yX0_upperLast.cls ≠ "java/lang/invoke/MethodHandle" ∧ yX0_upperLast.cls ≠ "java/lang/invoke/VarHandle" ∧ (parseMethodDescriptor yX0_upperLast.desc).map (fun d => d.parameters.length) = some 1) := by decide +kernel
theorem mhX0_upperLast : Cond.instanceMethod yX0_upperLast ∈ lw_use := ax_inT 4 165 (by decide +kernel)
theorem meX0_upperLast : Cond.selects yX0_upperLast.cls yX0_upperLast yX0_upperLast ∈ lw_use := ax_inT 4 166 (by decide +kernel)
theorem mlX10_311 : ax_mv RX10 311 yX0_upperLast cX0_upperLast 2 (some .int) 1 := ⟨⟨ax_inT 4 164 (by decide +kernel), miX0, mcX0_upperLast, mdX0_upperLast, by decide⟩, mhX0_upperLast, meX0_upperLast⟩
theorem mcX0_connect : Cond.code yX0_connect cX0_connect 3 (some .boolean) ∈ lw_use := ax_inC 4 171 rfl
theorem mdX0_connect : (yX0_connect.cls ≠ "java/lang/invoke/MethodHandle" ∧ yX0_connect.cls ≠ "java/lang/invoke/VarHandle" ∧ (parseMethodDescriptor yX0_connect.desc).map (fun d => d.parameters.length) = some 2) := by decide +kernel
theorem mhX0_connect : Cond.instanceMethod yX0_connect ∈ lw_use := ax_inT 4 169 (by decide +kernel)
theorem meX0_connect : Cond.selects yX0_connect.cls yX0_connect yX0_connect ∈ lw_use := ax_inT 4 170 (by decide +kernel)
theorem mlX10_314 : ax_mv RX10 314 yX0_connect cX0_connect 3 (some .boolean) 2 := ⟨⟨ax_inT 4 168 (by decide +kernel), miX0, mcX0_connect, mdX0_connect, by decide⟩, mhX0_connect, meX0_connect⟩
theorem mcX10_isMove : Cond.code yX10_isMove cX10_isMove 3 (some .boolean) ∈ lw_use := ax_inC 4 182 rfl
theorem mdX10_isMove : (yX10_isMove.cls ≠ "java/lang/invoke/MethodHandle" ∧ yX10_isMove.cls ≠ "java/lang/invoke/VarHandle" ∧ (parseMethodDescriptor yX10_isMove.desc).map (fun d => d.parameters.length) = some 2) := by decide +kernel
theorem mhX10_isMove : Cond.instanceMethod yX10_isMove ∈ lw_use := ax_inT 4 181 (by decide +kernel)
theorem meX10_isMove : Cond.selects yX10_isMove.cls yX10_isMove yX10_isMove ∈ lw_use := ax_inT 9 10 (by decide +kernel)
theorem mlX10_318 : ax_mv RX10 318 yX10_isMove cX10_isMove 3 (some .boolean) 2 := ⟨⟨ax_inT 4 179 (by decide +kernel), miX10, mcX10_isMove, mdX10_isMove, by decide⟩, mhX10_isMove, meX10_isMove⟩
theorem mcX7_takeMove : Cond.code yX7_takeMove cX7_takeMove 3 none ∈ lw_use := ax_inC 4 187 rfl
theorem mdX7_takeMove : (yX7_takeMove.cls ≠ "java/lang/invoke/MethodHandle" ∧ yX7_takeMove.cls ≠ "java/lang/invoke/VarHandle" ∧ (parseMethodDescriptor yX7_takeMove.desc).map (fun d => d.parameters.length) = some 2) := by decide +kernel
theorem mhX7_takeMove : Cond.instanceMethod yX7_takeMove ∈ lw_use := ax_inT 4 185 (by decide +kernel)
theorem meX7_takeMove : Cond.selects yX7_takeMove.cls yX7_takeMove yX7_takeMove ∈ lw_use := ax_inT 4 186 (by decide +kernel)
theorem mlX10_324 : ax_mv RX10 324 yX7_takeMove cX7_takeMove 3 none 2 := ⟨⟨ax_inT 4 184 (by decide +kernel), miX7, mcX7_takeMove, mdX7_takeMove, by decide⟩, mhX7_takeMove, meX7_takeMove⟩
theorem mcX7_dropMoves : Cond.code yX7_dropMoves cX7_dropMoves 4 none ∈ lw_use := ax_inC 4 195 rfl
theorem mdX7_dropMoves : (yX7_dropMoves.cls ≠ "java/lang/invoke/MethodHandle" ∧ yX7_dropMoves.cls ≠ "java/lang/invoke/VarHandle" ∧ (parseMethodDescriptor yX7_dropMoves.desc).map (fun d => d.parameters.length) = some 1) := by decide +kernel
theorem mhX7_dropMoves : Cond.instanceMethod yX7_dropMoves ∈ lw_use := ax_inT 4 193 (by decide +kernel)
theorem meX7_dropMoves : Cond.selects yX7_dropMoves.cls yX7_dropMoves yX7_dropMoves ∈ lw_use := ax_inT 4 194 (by decide +kernel)
theorem mlX10_327 : ax_mv RX10 327 yX7_dropMoves cX7_dropMoves 4 none 1 := ⟨⟨ax_inT 4 192 (by decide +kernel), miX7, mcX7_dropMoves, mdX7_dropMoves, by decide⟩, mhX7_dropMoves, meX7_dropMoves⟩
theorem mcX10_makeMove : Cond.code yX10_makeMove cX10_makeMove 6 (some .int) ∈ lw_use := ax_inC 4 207 rfl
theorem mdX10_makeMove : (yX10_makeMove.cls ≠ "java/lang/invoke/MethodHandle" ∧ yX10_makeMove.cls ≠ "java/lang/invoke/VarHandle" ∧ (parseMethodDescriptor yX10_makeMove.desc).map (fun d => d.parameters.length) = some 2) := by decide +kernel
theorem mhX10_makeMove : Cond.instanceMethod yX10_makeMove ∈ lw_use := ax_inT 4 206 (by decide +kernel)
theorem meX10_makeMove : Cond.selects yX10_makeMove.cls yX10_makeMove yX10_makeMove ∈ lw_use := ax_inT 9 12 (by decide +kernel)
theorem mlX10_331 : ax_mv RX10 331 yX10_makeMove cX10_makeMove 6 (some .int) 2 := ⟨⟨ax_inT 4 204 (by decide +kernel), miX10, mcX10_makeMove, mdX10_makeMove, by decide⟩, mhX10_makeMove, meX10_makeMove⟩
theorem mcX1_bringBack : Cond.code yX1_bringBack cX1_bringBack 2 none ∈ lw_use := ax_inC 4 229 rfl
theorem mdX1_bringBack : (yX1_bringBack.cls ≠ "java/lang/invoke/MethodHandle" ∧ yX1_bringBack.cls ≠ "java/lang/invoke/VarHandle" ∧ (parseMethodDescriptor yX1_bringBack.desc).map (fun d => d.parameters.length) = some 1) := by decide +kernel
theorem mhX1_bringBack : Cond.instanceMethod yX1_bringBack ∈ lw_use := ax_inT 4 227 (by decide +kernel)
theorem meX1_bringBack : Cond.selects yX1_bringBack.cls yX1_bringBack yX1_bringBack ∈ lw_use := ax_inT 4 228 (by decide +kernel)
theorem mlX10_335 : ax_mv RX10 335 yX1_bringBack cX1_bringBack 2 none 1 := ⟨⟨ax_inT 4 226 (by decide +kernel), miX1, mcX1_bringBack, mdX1_bringBack, by decide⟩, mhX1_bringBack, meX1_bringBack⟩
theorem mcX5_renew : Cond.code yX5_renew cX5_renew 3 none ∈ lw_use := ax_inC 4 237 rfl
theorem mdX5_renew : (yX5_renew.cls ≠ "java/lang/invoke/MethodHandle" ∧ yX5_renew.cls ≠ "java/lang/invoke/VarHandle" ∧ (parseMethodDescriptor yX5_renew.desc).map (fun d => d.parameters.length) = some 2) := by decide +kernel
theorem mhX5_renew : Cond.instanceMethod yX5_renew ∈ lw_use := ax_inT 4 235 (by decide +kernel)
theorem meX5_renew : Cond.selects yX5_renew.cls yX5_renew yX5_renew ∈ lw_use := ax_inT 4 236 (by decide +kernel)
theorem mlX10_338 : ax_mv RX10 338 yX5_renew cX5_renew 3 none 2 := ⟨⟨ax_inT 4 234 (by decide +kernel), miX5, mcX5_renew, mdX5_renew, by decide⟩, mhX5_renew, meX5_renew⟩
theorem mcX10_isShelf : Cond.code yX10_isShelf cX10_isShelf 1 (some .boolean) ∈ lw_use := ax_inC 5 13 rfl
theorem mdX10_isShelf : (yX10_isShelf.cls ≠ "java/lang/invoke/MethodHandle" ∧ yX10_isShelf.cls ≠ "java/lang/invoke/VarHandle" ∧ (parseMethodDescriptor yX10_isShelf.desc).map (fun d => d.parameters.length) = some 1) := by decide +kernel
theorem msX10_isShelf : Cond.static yX10_isShelf ∈ lw_use := ax_inT 5 12 (by decide +kernel)
theorem mlX10_344 : ax_ms RX10 344 yX10_isShelf cX10_isShelf 1 (some .boolean) 1 := ⟨⟨ax_inT 5 11 (by decide +kernel), miX10, mcX10_isShelf, mdX10_isShelf, by decide⟩, msX10_isShelf⟩
theorem mcX6_takeElement : Cond.code yX6_takeElement cX6_takeElement 3 none ∈ lw_use := ax_inC 5 17 rfl
theorem mdX6_takeElement : (yX6_takeElement.cls ≠ "java/lang/invoke/MethodHandle" ∧ yX6_takeElement.cls ≠ "java/lang/invoke/VarHandle" ∧ (parseMethodDescriptor yX6_takeElement.desc).map (fun d => d.parameters.length) = some 2) := by decide +kernel
theorem mhX6_takeElement : Cond.instanceMethod yX6_takeElement ∈ lw_use := ax_inT 5 15 (by decide +kernel)
theorem meX6_takeElement : Cond.selects yX6_takeElement.cls yX6_takeElement yX6_takeElement ∈ lw_use := ax_inT 5 16 (by decide +kernel)
theorem mlX10_347 : ax_mv RX10 347 yX6_takeElement cX6_takeElement 3 none 2 := ⟨⟨ax_inT 5 14 (by decide +kernel), miX6, mcX6_takeElement, mdX6_takeElement, by decide⟩, mhX6_takeElement, meX6_takeElement⟩
theorem mcX6_takeRow : Cond.code yX6_takeRow cX6_takeRow 3 none ∈ lw_use := ax_inC 5 26 rfl
theorem mdX6_takeRow : (yX6_takeRow.cls ≠ "java/lang/invoke/MethodHandle" ∧ yX6_takeRow.cls ≠ "java/lang/invoke/VarHandle" ∧ (parseMethodDescriptor yX6_takeRow.desc).map (fun d => d.parameters.length) = some 2) := by decide +kernel
theorem mhX6_takeRow : Cond.instanceMethod yX6_takeRow ∈ lw_use := ax_inT 5 24 (by decide +kernel)
theorem meX6_takeRow : Cond.selects yX6_takeRow.cls yX6_takeRow yX6_takeRow ∈ lw_use := ax_inT 5 25 (by decide +kernel)
theorem mlX10_350 : ax_mv RX10 350 yX6_takeRow cX6_takeRow 3 none 2 := ⟨⟨ax_inT 5 23 (by decide +kernel), miX6, mcX6_takeRow, mdX6_takeRow, by decide⟩, mhX6_takeRow, meX6_takeRow⟩
theorem mcX6_isEmpty : Cond.code yX6_isEmpty cX6_isEmpty 1 (some .boolean) ∈ lw_use := ax_inC 5 34 rfl
theorem mdX6_isEmpty : (yX6_isEmpty.cls ≠ "java/lang/invoke/MethodHandle" ∧ yX6_isEmpty.cls ≠ "java/lang/invoke/VarHandle" ∧ (parseMethodDescriptor yX6_isEmpty.desc).map (fun d => d.parameters.length) = some 0) := by decide +kernel
theorem mhX6_isEmpty : Cond.instanceMethod yX6_isEmpty ∈ lw_use := ax_inT 5 32 (by decide +kernel)
theorem meX6_isEmpty : Cond.selects yX6_isEmpty.cls yX6_isEmpty yX6_isEmpty ∈ lw_use := ax_inT 5 33 (by decide +kernel)
theorem mlX10_356 : ax_mv RX10 356 yX6_isEmpty cX6_isEmpty 1 (some .boolean) 0 := ⟨⟨ax_inT 5 31 (by decide +kernel), miX6, mcX6_isEmpty, mdX6_isEmpty, by decide⟩, mhX6_isEmpty, meX6_isEmpty⟩
theorem mcX10_layAgain : Cond.code yX10_layAgain cX10_layAgain 2 (some .int) ∈ lw_use := ax_inC 5 38 rfl
theorem mdX10_layAgain : (yX10_layAgain.cls ≠ "java/lang/invoke/MethodHandle" ∧ yX10_layAgain.cls ≠ "java/lang/invoke/VarHandle" ∧ (parseMethodDescriptor yX10_layAgain.desc).map (fun d => d.parameters.length) = some 1) := by decide +kernel
theorem mhX10_layAgain : Cond.instanceMethod yX10_layAgain ∈ lw_use := ax_inT 5 37 (by decide +kernel)
theorem meX10_layAgain : Cond.selects yX10_layAgain.cls yX10_layAgain yX10_layAgain ∈ lw_use := ax_inT 9 14 (by decide +kernel)
theorem mlX10_363 : ax_mv RX10 363 yX10_layAgain cX10_layAgain 2 (some .int) 1 := ⟨⟨ax_inT 5 35 (by decide +kernel), miX10, mcX10_layAgain, mdX10_layAgain, by decide⟩, mhX10_layAgain, meX10_layAgain⟩
theorem mcX10_sumOf : Cond.code yX10_sumOf cX10_sumOf 6 (some .int) ∈ lw_use := ax_inC 5 57 rfl
theorem mdX10_sumOf : (yX10_sumOf.cls ≠ "java/lang/invoke/MethodHandle" ∧ yX10_sumOf.cls ≠ "java/lang/invoke/VarHandle" ∧ (parseMethodDescriptor yX10_sumOf.desc).map (fun d => d.parameters.length) = some 1) := by decide +kernel
theorem msX10_sumOf : Cond.static yX10_sumOf ∈ lw_use := ax_inT 5 56 (by decide +kernel)
theorem mlX10_369 : ax_ms RX10 369 yX10_sumOf cX10_sumOf 6 (some .int) 1 := ⟨⟨ax_inT 5 55 (by decide +kernel), miX10, mcX10_sumOf, mdX10_sumOf, by decide⟩, msX10_sumOf⟩
theorem mcX7_countMaps : Cond.code yX7_countMaps cX7_countMaps 3 (some .int) ∈ lw_use := ax_inC 5 61 rfl
theorem mdX7_countMaps : (yX7_countMaps.cls ≠ "java/lang/invoke/MethodHandle" ∧ yX7_countMaps.cls ≠ "java/lang/invoke/VarHandle" ∧ (parseMethodDescriptor yX7_countMaps.desc).map (fun d => d.parameters.length) = some 0) := by decide +kernel
theorem mhX7_countMaps : Cond.instanceMethod yX7_countMaps ∈ lw_use := ax_inT 5 59 (by decide +kernel)
theorem meX7_countMaps : Cond.selects yX7_countMaps.cls yX7_countMaps yX7_countMaps ∈ lw_use := ax_inT 5 60 (by decide +kernel)
theorem mlX10_373 : ax_mv RX10 373 yX7_countMaps cX7_countMaps 3 (some .int) 0 := ⟨⟨ax_inT 5 58 (by decide +kernel), miX7, mcX7_countMaps, mdX7_countMaps, by decide⟩, mhX7_countMaps, meX7_countMaps⟩
theorem mcX10_setOfWell : Cond.code yX10_setOfWell cX10_setOfWell 3 (some .int) ∈ lw_use := ax_inC 5 66 rfl
theorem mdX10_setOfWell : (yX10_setOfWell.cls ≠ "java/lang/invoke/MethodHandle" ∧ yX10_setOfWell.cls ≠ "java/lang/invoke/VarHandle" ∧ (parseMethodDescriptor yX10_setOfWell.desc).map (fun d => d.parameters.length) = some 0) := by decide +kernel
theorem mhX10_setOfWell : Cond.instanceMethod yX10_setOfWell ∈ lw_use := ax_inT 5 65 (by decide +kernel)
theorem meX10_setOfWell : Cond.selects yX10_setOfWell.cls yX10_setOfWell yX10_setOfWell ∈ lw_use := ax_inT 9 15 (by decide +kernel)
theorem mlX10_376 : ax_mv RX10 376 yX10_setOfWell cX10_setOfWell 3 (some .int) 0 := ⟨⟨ax_inT 5 63 (by decide +kernel), miX10, mcX10_setOfWell, mdX10_setOfWell, by decide⟩, mhX10_setOfWell, meX10_setOfWell⟩
theorem mcX7_becomeAs : Cond.code yX7_becomeAs cX7_becomeAs 2 none ∈ lw_use := ax_inC 2 155 rfl
theorem mdX7_becomeAs : (yX7_becomeAs.cls ≠ "java/lang/invoke/MethodHandle" ∧ yX7_becomeAs.cls ≠ "java/lang/invoke/VarHandle" ∧ (parseMethodDescriptor yX7_becomeAs.desc).map (fun d => d.parameters.length) = some 1) := by decide +kernel
theorem mhX7_becomeAs : Cond.instanceMethod yX7_becomeAs ∈ lw_use := ax_inT 2 153 (by decide +kernel)
theorem meX7_becomeAs : Cond.selects yX7_becomeAs.cls yX7_becomeAs yX7_becomeAs ∈ lw_use := ax_inT 2 154 (by decide +kernel)
theorem mlX10_379 : ax_mv RX10 379 yX7_becomeAs cX7_becomeAs 2 none 1 := ⟨⟨ax_inT 5 71 (by decide +kernel), miX7, mcX7_becomeAs, mdX7_becomeAs, by decide⟩, mhX7_becomeAs, meX7_becomeAs⟩
theorem mcX1_forget : Cond.code yX1_forget cX1_forget 1 none ∈ lw_use := ax_inC 5 79 rfl
theorem mdX1_forget : (yX1_forget.cls ≠ "java/lang/invoke/MethodHandle" ∧ yX1_forget.cls ≠ "java/lang/invoke/VarHandle" ∧ (parseMethodDescriptor yX1_forget.desc).map (fun d => d.parameters.length) = some 0) := by decide +kernel
theorem mhX1_forget : Cond.instanceMethod yX1_forget ∈ lw_use := ax_inT 5 77 (by decide +kernel)
theorem meX1_forget : Cond.selects yX1_forget.cls yX1_forget yX1_forget ∈ lw_use := ax_inT 5 78 (by decide +kernel)
theorem mlX10_382 : ax_mv RX10 382 yX1_forget cX1_forget 1 none 0 := ⟨⟨ax_inT 5 76 (by decide +kernel), miX1, mcX1_forget, mdX1_forget, by decide⟩, mhX1_forget, meX1_forget⟩
theorem mcX10_isWithin : Cond.code yX10_isWithin cX10_isWithin 4 (some .boolean) ∈ lw_use := ax_inC 2 179 rfl
theorem mdX10_isWithin : (yX10_isWithin.cls ≠ "java/lang/invoke/MethodHandle" ∧ yX10_isWithin.cls ≠ "java/lang/invoke/VarHandle" ∧ (parseMethodDescriptor yX10_isWithin.desc).map (fun d => d.parameters.length) = some 2) := by decide +kernel
theorem msX10_isWithin : Cond.static yX10_isWithin ∈ lw_use := ax_inT 2 178 (by decide +kernel)
theorem mlX10_385 : ax_ms RX10 385 yX10_isWithin cX10_isWithin 4 (some .boolean) 2 := ⟨⟨ax_inT 2 177 (by decide +kernel), miX10, mcX10_isWithin, mdX10_isWithin, by decide⟩, msX10_isWithin⟩
theorem mcX7_hasMap : Cond.code yX7_hasMap cX7_hasMap 2 (some .boolean) ∈ lw_use := ax_inC 3 165 rfl
theorem mdX7_hasMap : (yX7_hasMap.cls ≠ "java/lang/invoke/MethodHandle" ∧ yX7_hasMap.cls ≠ "java/lang/invoke/VarHandle" ∧ (parseMethodDescriptor yX7_hasMap.desc).map (fun d => d.parameters.length) = some 1) := by decide +kernel
theorem mhX7_hasMap : Cond.instanceMethod yX7_hasMap ∈ lw_use := ax_inT 3 163 (by decide +kernel)
theorem meX7_hasMap : Cond.selects yX7_hasMap.cls yX7_hasMap yX7_hasMap ∈ lw_use := ax_inT 3 164 (by decide +kernel)
theorem mlX10_388 : ax_mv RX10 388 yX7_hasMap cX7_hasMap 2 (some .boolean) 1 := ⟨⟨ax_inT 3 162 (by decide +kernel), miX7, mcX7_hasMap, mdX7_hasMap, by decide⟩, mhX7_hasMap, meX7_hasMap⟩
theorem mcJ9_abs_067f4 : Cond.code yJ9_abs_067f4 cJ9_abs_067f4 2 (some .long) ∈ lw_use := ax_inC 3 17 rfl
theorem mdJ9_abs_067f4 : (yJ9_abs_067f4.cls ≠ "java/lang/invoke/MethodHandle" ∧ yJ9_abs_067f4.cls ≠ "java/lang/invoke/VarHandle" ∧ (parseMethodDescriptor yJ9_abs_067f4.desc).map (fun d => d.parameters.length) = some 1) := by decide +kernel
theorem msJ9_abs_067f4 : Cond.static yJ9_abs_067f4 ∈ lw_use := ax_inT 3 16 (by decide +kernel)
theorem mlX10_395 : ax_ms RX10 395 yJ9_abs_067f4 cJ9_abs_067f4 2 (some .long) 1 := ⟨⟨ax_inT 3 15 (by decide +kernel), miJ9, mcJ9_abs_067f4, mdJ9_abs_067f4, by decide⟩, msJ9_abs_067f4⟩
theorem mcX4_ofQuotient : Cond.code yX4_ofQuotient cX4_ofQuotient 8 none ∈ lw_use := ax_inC 2 234 rfl
theorem mdX4_ofQuotient : (yX4_ofQuotient.cls ≠ "java/lang/invoke/MethodHandle" ∧ yX4_ofQuotient.cls ≠ "java/lang/invoke/VarHandle" ∧ (parseMethodDescriptor yX4_ofQuotient.desc).map (fun d => d.parameters.length) = some 1) := by decide +kernel
theorem mhX4_ofQuotient : Cond.instanceMethod yX4_ofQuotient ∈ lw_use := ax_inT 2 232 (by decide +kernel)
theorem meX4_ofQuotient : Cond.selects yX4_ofQuotient.cls yX4_ofQuotient yX4_ofQuotient ∈ lw_use := ax_inT 2 233 (by decide +kernel)
theorem mlX10_401 : ax_mv RX10 401 yX4_ofQuotient cX4_ofQuotient 8 none 1 := ⟨⟨ax_inT 2 231 (by decide +kernel), miX4, mcX4_ofQuotient, mdX4_ofQuotient, by decide⟩, mhX4_ofQuotient, meX4_ofQuotient⟩
theorem mcX4_own : Cond.code yX4_own cX4_own 3 (some .long) ∈ lw_use := ax_inC 3 74 rfl
theorem mdX4_own : (yX4_own.cls ≠ "java/lang/invoke/MethodHandle" ∧ yX4_own.cls ≠ "java/lang/invoke/VarHandle" ∧ (parseMethodDescriptor yX4_own.desc).map (fun d => d.parameters.length) = some 1) := by decide +kernel
theorem mhX4_own : Cond.instanceMethod yX4_own ∈ lw_use := ax_inT 3 72 (by decide +kernel)
theorem meX4_own : Cond.selects yX4_own.cls yX4_own yX4_own ∈ lw_use := ax_inT 3 73 (by decide +kernel)
theorem mlX10_404 : ax_mv RX10 404 yX4_own cX4_own 3 (some .long) 1 := ⟨⟨ax_inT 3 102 (by decide +kernel), miX4, mcX4_own, mdX4_own, by decide⟩, mhX4_own, meX4_own⟩
theorem mcX0_read : Cond.code yX0_read cX0_read 5 (some .boolean) ∈ lw_use := ax_inC 4 121 rfl
theorem mdX0_read : (yX0_read.cls ≠ "java/lang/invoke/MethodHandle" ∧ yX0_read.cls ≠ "java/lang/invoke/VarHandle" ∧ (parseMethodDescriptor yX0_read.desc).map (fun d => d.parameters.length) = some 3) := by decide +kernel
theorem mhX0_read : Cond.instanceMethod yX0_read ∈ lw_use := ax_inT 4 119 (by decide +kernel)
theorem meX0_read : Cond.selects yX0_read.cls yX0_read yX0_read ∈ lw_use := ax_inT 4 120 (by decide +kernel)
theorem mlX10_407 : ax_mv RX10 407 yX0_read cX0_read 5 (some .boolean) 3 := ⟨⟨ax_inT 4 118 (by decide +kernel), miX0, mcX0_read, mdX0_read, by decide⟩, mhX0_read, meX0_read⟩
theorem mcX7_canMove : Cond.code yX7_canMove cX7_canMove 3 (some .boolean) ∈ lw_use := ax_inC 4 211 rfl
theorem mdX7_canMove : (yX7_canMove.cls ≠ "java/lang/invoke/MethodHandle" ∧ yX7_canMove.cls ≠ "java/lang/invoke/VarHandle" ∧ (parseMethodDescriptor yX7_canMove.desc).map (fun d => d.parameters.length) = some 2) := by decide +kernel
theorem mhX7_canMove : Cond.instanceMethod yX7_canMove ∈ lw_use := ax_inT 4 209 (by decide +kernel)
theorem meX7_canMove : Cond.selects yX7_canMove.cls yX7_canMove yX7_canMove ∈ lw_use := ax_inT 4 210 (by decide +kernel)
theorem mlX10_416 : ax_mv RX10 416 yX7_canMove cX7_canMove 3 (some .boolean) 2 := ⟨⟨ax_inT 4 208 (by decide +kernel), miX7, mcX7_canMove, mdX7_canMove, by decide⟩, mhX7_canMove, meX7_canMove⟩
theorem mcX7_moveRow : Cond.code yX7_moveRow cX7_moveRow 4 (some .int) ∈ lw_use := ax_inC 4 215 rfl
theorem mdX7_moveRow : (yX7_moveRow.cls ≠ "java/lang/invoke/MethodHandle" ∧ yX7_moveRow.cls ≠ "java/lang/invoke/VarHandle" ∧ (parseMethodDescriptor yX7_moveRow.desc).map (fun d => d.parameters.length) = some 3) := by decide +kernel
theorem mhX7_moveRow : Cond.instanceMethod yX7_moveRow ∈ lw_use := ax_inT 4 213 (by decide +kernel)
theorem meX7_moveRow : Cond.selects yX7_moveRow.cls yX7_moveRow yX7_moveRow ∈ lw_use := ax_inT 4 214 (by decide +kernel)
theorem mlX10_419 : ax_mv RX10 419 yX7_moveRow cX7_moveRow 4 (some .int) 3 := ⟨⟨ax_inT 4 212 (by decide +kernel), miX7, mcX7_moveRow, mdX7_moveRow, by decide⟩, mhX7_moveRow, meX7_moveRow⟩
theorem mcX10_rowIsWithin : Cond.code yX10_rowIsWithin cX10_rowIsWithin 1 (some .boolean) ∈ lw_use := ax_inC 4 220 rfl
theorem mdX10_rowIsWithin : (yX10_rowIsWithin.cls ≠ "java/lang/invoke/MethodHandle" ∧ yX10_rowIsWithin.cls ≠ "java/lang/invoke/VarHandle" ∧ (parseMethodDescriptor yX10_rowIsWithin.desc).map (fun d => d.parameters.length) = some 0) := by decide +kernel
theorem mhX10_rowIsWithin : Cond.instanceMethod yX10_rowIsWithin ∈ lw_use := ax_inT 4 219 (by decide +kernel)
theorem meX10_rowIsWithin : Cond.selects yX10_rowIsWithin.cls yX10_rowIsWithin yX10_rowIsWithin ∈ lw_use := ax_inT 9 13 (by decide +kernel)
theorem mlX10_429 : ax_mv RX10 429 yX10_rowIsWithin cX10_rowIsWithin 1 (some .boolean) 0 := ⟨⟨ax_inT 4 217 (by decide +kernel), miX10, mcX10_rowIsWithin, mdX10_rowIsWithin, by decide⟩, mhX10_rowIsWithin, meX10_rowIsWithin⟩
theorem mlX0_17 : ax_mi RX0 17 yX3_init cX3_init 1 0 := ⟨⟨ax_inT 1 188 (by decide +kernel), miX3, mcX3_init, mdX3_init, by decide⟩, rfl, mhX3_init⟩
theorem mlX0_38 : ax_mv RX0 38 yX7_hasMap cX7_hasMap 2 (some .boolean) 1 := ⟨⟨ax_inT 4 122 (by decide +kernel), miX7, mcX7_hasMap, mdX7_hasMap, by decide⟩, mhX7_hasMap, meX7_hasMap⟩
theorem mcX0_to : Cond.code yX0_to cX0_to 3 (some .int) ∈ lw_use := ax_inC 4 126 rfl
theorem mdX0_to : (yX0_to.cls ≠ "java/lang/invoke/MethodHandle" ∧ yX0_to.cls ≠ "java/lang/invoke/VarHandle" ∧ (parseMethodDescriptor yX0_to.desc).map (fun d => d.parameters.length) = some 2) := by decide +kernel
theorem mhX0_to : Cond.instanceMethod yX0_to ∈ lw_use := ax_inT 4 125 (by decide +kernel)
theorem meX0_to : Cond.selects yX0_to.cls yX0_to yX0_to ∈ lw_use := ax_inT 9 5 (by decide +kernel)
theorem mlX0_44 : ax_mv RX0 44 yX0_to cX0_to 3 (some .int) 2 := ⟨⟨ax_inT 4 123 (by decide +kernel), miX0, mcX0_to, mdX0_to, by decide⟩, mhX0_to, meX0_to⟩
theorem mcX0_from : Cond.code yX0_from cX0_from 3 (some .int) ∈ lw_use := ax_inC 4 130 rfl
theorem mdX0_from : (yX0_from.cls ≠ "java/lang/invoke/MethodHandle" ∧ yX0_from.cls ≠ "java/lang/invoke/VarHandle" ∧ (parseMethodDescriptor yX0_from.desc).map (fun d => d.parameters.length) = some 2) := by decide +kernel
theorem mhX0_from : Cond.instanceMethod yX0_from ∈ lw_use := ax_inT 4 129 (by decide +kernel)
theorem meX0_from : Cond.selects yX0_from.cls yX0_from yX0_from ∈ lw_use := ax_inT 9 6 (by decide +kernel)
theorem mlX0_48 : ax_mv RX0 48 yX0_from cX0_from 3 (some .int) 2 := ⟨⟨ax_inT 4 127 (by decide +kernel), miX0, mcX0_from, mdX0_from, by decide⟩, mhX0_from, meX0_from⟩
theorem mlX0_55 : ax_mv RX0 55 yX3_load cX3_load 3 (some .boolean) 2 := ⟨⟨ax_inT 4 135 (by decide +kernel), miX3, mcX3_load, mdX3_load, by decide⟩, mhX3_load, meX3_load⟩
theorem mcX0_rowIsExact : Cond.code yX0_rowIsExact cX0_rowIsExact 4 (some .boolean) ∈ lw_use := ax_inC 4 139 rfl
theorem mdX0_rowIsExact : (yX0_rowIsExact.cls ≠ "java/lang/invoke/MethodHandle" ∧ yX0_rowIsExact.cls ≠ "java/lang/invoke/VarHandle" ∧ (parseMethodDescriptor yX0_rowIsExact.desc).map (fun d => d.parameters.length) = some 3) := by decide +kernel
theorem mhX0_rowIsExact : Cond.instanceMethod yX0_rowIsExact ∈ lw_use := ax_inT 4 138 (by decide +kernel)
theorem meX0_rowIsExact : Cond.selects yX0_rowIsExact.cls yX0_rowIsExact yX0_rowIsExact ∈ lw_use := ax_inT 9 7 (by decide +kernel)
theorem mlX0_59 : ax_mv RX0 59 yX0_rowIsExact cX0_rowIsExact 4 (some .boolean) 3 := ⟨⟨ax_inT 4 136 (by decide +kernel), miX0, mcX0_rowIsExact, mdX0_rowIsExact, by decide⟩, mhX0_rowIsExact, meX0_rowIsExact⟩
theorem mlX0_63 : ax_mv RX0 63 yX3_isOnto cX3_isOnto 1 (some .boolean) 0 := ⟨⟨ax_inT 4 142 (by decide +kernel), miX3, mcX3_isOnto, mdX3_isOnto, by decide⟩, mhX3_isOnto, meX3_isOnto⟩
theorem mlX0_67 : ax_mv RX0 67 yX3_isOneToOne cX3_isOneToOne 1 (some .boolean) 0 := ⟨⟨ax_inT 4 143 (by decide +kernel), miX3, mcX3_isOneToOne, mdX3_isOneToOne, by decide⟩, mhX3_isOneToOne, meX3_isOneToOne⟩
theorem mcX0_waysAgree : Cond.code yX0_waysAgree cX0_waysAgree 9 (some .boolean) ∈ lw_use := ax_inC 4 147 rfl
theorem mdX0_waysAgree : (yX0_waysAgree.cls ≠ "java/lang/invoke/MethodHandle" ∧ yX0_waysAgree.cls ≠ "java/lang/invoke/VarHandle" ∧ (parseMethodDescriptor yX0_waysAgree.desc).map (fun d => d.parameters.length) = some 5) := by decide +kernel
theorem mhX0_waysAgree : Cond.instanceMethod yX0_waysAgree ∈ lw_use := ax_inT 4 146 (by decide +kernel)
theorem meX0_waysAgree : Cond.selects yX0_waysAgree.cls yX0_waysAgree yX0_waysAgree ∈ lw_use := ax_inT 9 8 (by decide +kernel)
theorem mlX0_70 : ax_mv RX0 70 yX0_waysAgree cX0_waysAgree 9 (some .boolean) 5 := ⟨⟨ax_inT 4 144 (by decide +kernel), miX0, mcX0_waysAgree, mdX0_waysAgree, by decide⟩, mhX0_waysAgree, meX0_waysAgree⟩
theorem mlX0_74 : ax_mv RX0 74 yX3_workOut cX3_workOut 7 none 2 := ⟨⟨ax_inT 4 140 (by decide +kernel), miX3, mcX3_workOut, mdX3_workOut, by decide⟩, mhX3_workOut, meX3_workOut⟩
theorem mlX0_85 : ax_mv RX0 85 yX2_isAs cX2_isAs 4 (some .boolean) 1 := ⟨⟨ax_inT 4 141 (by decide +kernel), miX2, mcX2_isAs, mdX2_isAs, by decide⟩, mhX2_isAs, meX2_isAs⟩
theorem mlX0_94 : ax_mv RX0 94 yX7_fillNothing cX7_fillNothing 5 none 2 := ⟨⟨ax_inT 4 148 (by decide +kernel), miX7, mcX7_fillNothing, mdX7_fillNothing, by decide⟩, mhX7_fillNothing, meX7_fillNothing⟩
theorem mcJ7_fill_d0a16 : Cond.code yJ7_fill_d0a16 cJ7_fill_d0a16 5 none ∈ lw_use := ax_inC 2 210 rfl
theorem mdJ7_fill_d0a16 : (yJ7_fill_d0a16.cls ≠ "java/lang/invoke/MethodHandle" ∧ yJ7_fill_d0a16.cls ≠ "java/lang/invoke/VarHandle" ∧ (parseMethodDescriptor yJ7_fill_d0a16.desc).map (fun d => d.parameters.length) = some 2) := by decide +kernel
theorem msJ7_fill_d0a16 : Cond.static yJ7_fill_d0a16 ∈ lw_use := ax_inT 2 209 (by decide +kernel)
theorem mlX0_101 : ax_ms RX0 101 yJ7_fill_d0a16 cJ7_fill_d0a16 5 none 2 := ⟨⟨ax_inT 4 149 (by decide +kernel), miJ7, mcJ7_fill_d0a16, mdJ7_fill_d0a16, by decide⟩, msJ7_fill_d0a16⟩
theorem mcX0_goBoth : Cond.code yX0_goBoth cX0_goBoth 5 none ∈ lw_use := ax_inC 4 153 rfl
theorem mdX0_goBoth : (yX0_goBoth.cls ≠ "java/lang/invoke/MethodHandle" ∧ yX0_goBoth.cls ≠ "java/lang/invoke/VarHandle" ∧ (parseMethodDescriptor yX0_goBoth.desc).map (fun d => d.parameters.length) = some 4) := by decide +kernel
theorem mhX0_goBoth : Cond.instanceMethod yX0_goBoth ∈ lw_use := ax_inT 4 152 (by decide +kernel)
theorem meX0_goBoth : Cond.selects yX0_goBoth.cls yX0_goBoth yX0_goBoth ∈ lw_use := ax_inT 9 9 (by decide +kernel)
theorem mlX0_107 : ax_mv RX0 107 yX0_goBoth cX0_goBoth 5 none 4 := ⟨⟨ax_inT 4 150 (by decide +kernel), miX0, mcX0_goBoth, mdX0_goBoth, by decide⟩, mhX0_goBoth, meX0_goBoth⟩
theorem mcX2_swallows : Cond.code yX2_swallows cX2_swallows 2 (some .boolean) ∈ lw_use := ax_inC 3 193 rfl
theorem mdX2_swallows : (yX2_swallows.cls ≠ "java/lang/invoke/MethodHandle" ∧ yX2_swallows.cls ≠ "java/lang/invoke/VarHandle" ∧ (parseMethodDescriptor yX2_swallows.desc).map (fun d => d.parameters.length) = some 1) := by decide +kernel
theorem mhX2_swallows : Cond.instanceMethod yX2_swallows ∈ lw_use := ax_inT 3 191 (by decide +kernel)
theorem meX2_swallows : Cond.selects yX2_swallows.cls yX2_swallows yX2_swallows ∈ lw_use := ax_inT 3 192 (by decide +kernel)
theorem mlX0_111 : ax_mv RX0 111 yX2_swallows cX2_swallows 2 (some .boolean) 1 := ⟨⟨ax_inT 4 155 (by decide +kernel), miX2, mcX2_swallows, mdX2_swallows, by decide⟩, mhX2_swallows, meX2_swallows⟩
theorem mlX0_115 : ax_mv RX0 115 yX7_mapRow cX7_mapRow 4 none 3 := ⟨⟨ax_inT 4 154 (by decide +kernel), miX7, mcX7_mapRow, mdX7_mapRow, by decide⟩, mhX7_mapRow, meX7_mapRow⟩
theorem mlX0_119 : ax_mv RX0 119 yX3_goBack cX3_goBack 5 (some .boolean) 1 := ⟨⟨ax_inT 4 172 (by decide +kernel), miX3, mcX3_goBack, mdX3_goBack, by decide⟩, mhX3_goBack, meX3_goBack⟩
theorem mlX0_128 : ax_mv RX0 128 yX2_reduce cX2_reduce 2 none 1 := ⟨⟨ax_inT 4 174 (by decide +kernel), miX2, mcX2_reduce, mdX2_reduce, by decide⟩, mhX2_reduce, meX2_reduce⟩
theorem mlX1_24 : ax_mi RX1 24 yX7_init cX7_init 1 0 := ⟨⟨ax_inT 1 102 (by decide +kernel), miX7, mcX7_init, mdX7_init, by decide⟩, rfl, mhX7_init⟩
theorem mlX1_25 : ax_mv RX1 25 yX7_becomeAs cX7_becomeAs 2 none 1 := ⟨⟨ax_inT 2 152 (by decide +kernel), miX7, mcX7_becomeAs, mdX7_becomeAs, by decide⟩, mhX7_becomeAs, meX7_becomeAs⟩
theorem mcJ9_min_7cf53 : Cond.code yJ9_min_7cf53 cJ9_min_7cf53 2 (some .int) ∈ lw_use := ax_inC 2 161 rfl
theorem mdJ9_min_7cf53 : (yJ9_min_7cf53.cls ≠ "java/lang/invoke/MethodHandle" ∧ yJ9_min_7cf53.cls ≠ "java/lang/invoke/VarHandle" ∧ (parseMethodDescriptor yJ9_min_7cf53.desc).map (fun d => d.parameters.length) = some 2) := by decide +kernel
theorem msJ9_min_7cf53 : Cond.static yJ9_min_7cf53 ∈ lw_use := ax_inT 2 160 (by decide +kernel)
theorem mlX1_29 : ax_ms RX1 29 yJ9_min_7cf53 cJ9_min_7cf53 2 (some .int) 2 := ⟨⟨ax_inT 2 165 (by decide +kernel), miJ9, mcJ9_min_7cf53, mdJ9_min_7cf53, by decide⟩, msJ9_min_7cf53⟩
theorem mlX2_24 : ax_ms RX2 24 yJ9_min_7cf53 cJ9_min_7cf53 2 (some .int) 2 := ⟨⟨ax_inT 2 204 (by decide +kernel), miJ9, mcJ9_min_7cf53, mdJ9_min_7cf53, by decide⟩, msJ9_min_7cf53⟩
theorem mcJ9_max_7cf53 : Cond.code yJ9_max_7cf53 cJ9_max_7cf53 2 (some .int) ∈ lw_use := ax_inC 2 207 rfl
theorem mdJ9_max_7cf53 : (yJ9_max_7cf53.cls ≠ "java/lang/invoke/MethodHandle" ∧ yJ9_max_7cf53.cls ≠ "java/lang/invoke/VarHandle" ∧ (parseMethodDescriptor yJ9_max_7cf53.desc).map (fun d => d.parameters.length) = some 2) := by decide +kernel
theorem msJ9_max_7cf53 : Cond.static yJ9_max_7cf53 ∈ lw_use := ax_inT 2 206 (by decide +kernel)
theorem mlX2_30 : ax_ms RX2 30 yJ9_max_7cf53 cJ9_max_7cf53 2 (some .int) 2 := ⟨⟨ax_inT 2 205 (by decide +kernel), miJ9, mcJ9_max_7cf53, mdJ9_max_7cf53, by decide⟩, msJ9_max_7cf53⟩
theorem mlX2_33 : ax_ms RX2 33 yJ7_fill_d0a16 cJ7_fill_d0a16 5 none 2 := ⟨⟨ax_inT 2 208 (by decide +kernel), miJ7, mcJ7_fill_d0a16, mdJ7_fill_d0a16, by decide⟩, msJ7_fill_d0a16⟩
theorem mcX2_insertComing : Cond.code yX2_insertComing cX2_insertComing 2 none ∈ lw_use := ax_inC 2 214 rfl
theorem mdX2_insertComing : (yX2_insertComing.cls ≠ "java/lang/invoke/MethodHandle" ∧ yX2_insertComing.cls ≠ "java/lang/invoke/VarHandle" ∧ (parseMethodDescriptor yX2_insertComing.desc).map (fun d => d.parameters.length) = some 0) := by decide +kernel
theorem mhX2_insertComing : Cond.instanceMethod yX2_insertComing ∈ lw_use := ax_inT 2 212 (by decide +kernel)
theorem meX2_insertComing : Cond.selects yX2_insertComing.cls yX2_insertComing yX2_insertComing ∈ lw_use := ax_inT 2 213 (by decide +kernel)
theorem mlX2_45 : ax_mv RX2 45 yX2_insertComing cX2_insertComing 2 none 0 := ⟨⟨ax_inT 3 124 (by decide +kernel), miX2, mcX2_insertComing, mdX2_insertComing, by decide⟩, mhX2_insertComing, meX2_insertComing⟩
theorem mcX2_reduceFrom : Cond.code yX2_reduceFrom cX2_reduceFrom 9 none ∈ lw_use := ax_inC 2 218 rfl
theorem mdX2_reduceFrom : (yX2_reduceFrom.cls ≠ "java/lang/invoke/MethodHandle" ∧ yX2_reduceFrom.cls ≠ "java/lang/invoke/VarHandle" ∧ (parseMethodDescriptor yX2_reduceFrom.desc).map (fun d => d.parameters.length) = some 2) := by decide +kernel
theorem mhX2_reduceFrom : Cond.instanceMethod yX2_reduceFrom ∈ lw_use := ax_inT 2 217 (by decide +kernel)
theorem meX2_reduceFrom : Cond.selects yX2_reduceFrom.cls yX2_reduceFrom yX2_reduceFrom ∈ lw_use := ax_inT 8 2 (by decide +kernel)
theorem mlX2_48 : ax_mv RX2 48 yX2_reduceFrom cX2_reduceFrom 9 none 2 := ⟨⟨ax_inT 2 215 (by decide +kernel), miX2, mcX2_reduceFrom, mdX2_reduceFrom, by decide⟩, mhX2_reduceFrom, meX2_reduceFrom⟩
theorem mcX2_settleAt : Cond.code yX2_settleAt cX2_settleAt 5 none ∈ lw_use := ax_inC 2 225 rfl
theorem mdX2_settleAt : (yX2_settleAt.cls ≠ "java/lang/invoke/MethodHandle" ∧ yX2_settleAt.cls ≠ "java/lang/invoke/VarHandle" ∧ (parseMethodDescriptor yX2_settleAt.desc).map (fun d => d.parameters.length) = some 1) := by decide +kernel
theorem mhX2_settleAt : Cond.instanceMethod yX2_settleAt ∈ lw_use := ax_inT 2 224 (by decide +kernel)
theorem meX2_settleAt : Cond.selects yX2_settleAt.cls yX2_settleAt yX2_settleAt ∈ lw_use := ax_inT 8 3 (by decide +kernel)
theorem mlX2_52 : ax_mv RX2 52 yX2_settleAt cX2_settleAt 5 none 1 := ⟨⟨ax_inT 2 222 (by decide +kernel), miX2, mcX2_settleAt, mdX2_settleAt, by decide⟩, mhX2_settleAt, meX2_settleAt⟩
theorem mcX2_meetAt : Cond.code yX2_meetAt cX2_meetAt 8 none ∈ lw_use := ax_inC 2 230 rfl
theorem mdX2_meetAt : (yX2_meetAt.cls ≠ "java/lang/invoke/MethodHandle" ∧ yX2_meetAt.cls ≠ "java/lang/invoke/VarHandle" ∧ (parseMethodDescriptor yX2_meetAt.desc).map (fun d => d.parameters.length) = some 1) := by decide +kernel
theorem mhX2_meetAt : Cond.instanceMethod yX2_meetAt ∈ lw_use := ax_inT 2 229 (by decide +kernel)
theorem meX2_meetAt : Cond.selects yX2_meetAt.cls yX2_meetAt yX2_meetAt ∈ lw_use := ax_inT 8 4 (by decide +kernel)
theorem mlX2_56 : ax_mv RX2 56 yX2_meetAt cX2_meetAt 8 none 1 := ⟨⟨ax_inT 2 227 (by decide +kernel), miX2, mcX2_meetAt, mdX2_meetAt, by decide⟩, mhX2_meetAt, meX2_meetAt⟩
theorem mcJ9_floorDiv_f86c9 : Cond.code yJ9_floorDiv_f86c9 cJ9_floorDiv_f86c9 6 (some .long) ∈ lw_use := ax_inC 2 221 rfl
theorem mdJ9_floorDiv_f86c9 : (yJ9_floorDiv_f86c9.cls ≠ "java/lang/invoke/MethodHandle" ∧ yJ9_floorDiv_f86c9.cls ≠ "java/lang/invoke/VarHandle" ∧ (parseMethodDescriptor yJ9_floorDiv_f86c9.desc).map (fun d => d.parameters.length) = some 2) := by decide +kernel
theorem msJ9_floorDiv_f86c9 : Cond.static yJ9_floorDiv_f86c9 ∈ lw_use := ax_inT 2 220 (by decide +kernel)
theorem mlX2_61 : ax_ms RX2 61 yJ9_floorDiv_f86c9 cJ9_floorDiv_f86c9 6 (some .long) 2 := ⟨⟨ax_inT 2 219 (by decide +kernel), miJ9, mcJ9_floorDiv_f86c9, mdJ9_floorDiv_f86c9, by decide⟩, msJ9_floorDiv_f86c9⟩
theorem mcX2_startsWithZeros : Cond.code yX2_startsWithZeros cX2_startsWithZeros 3 (some .boolean) ∈ lw_use := ax_inC 3 196 rfl
theorem mdX2_startsWithZeros : (yX2_startsWithZeros.cls ≠ "java/lang/invoke/MethodHandle" ∧ yX2_startsWithZeros.cls ≠ "java/lang/invoke/VarHandle" ∧ (parseMethodDescriptor yX2_startsWithZeros.desc).map (fun d => d.parameters.length) = some 2) := by decide +kernel
theorem msX2_startsWithZeros : Cond.static yX2_startsWithZeros ∈ lw_use := ax_inT 3 195 (by decide +kernel)
theorem mlX2_65 : ax_ms RX2 65 yX2_startsWithZeros cX2_startsWithZeros 3 (some .boolean) 2 := ⟨⟨ax_inT 3 194 (by decide +kernel), miX2, mcX2_startsWithZeros, mdX2_startsWithZeros, by decide⟩, msX2_startsWithZeros⟩
theorem mcX2_rank : Cond.code yX2_rank cX2_rank 3 (some .int) ∈ lw_use := ax_inC 2 239 rfl
theorem mdX2_rank : (yX2_rank.cls ≠ "java/lang/invoke/MethodHandle" ∧ yX2_rank.cls ≠ "java/lang/invoke/VarHandle" ∧ (parseMethodDescriptor yX2_rank.desc).map (fun d => d.parameters.length) = some 0) := by decide +kernel
theorem mhX2_rank : Cond.instanceMethod yX2_rank ∈ lw_use := ax_inT 2 237 (by decide +kernel)
theorem meX2_rank : Cond.selects yX2_rank.cls yX2_rank yX2_rank ∈ lw_use := ax_inT 2 238 (by decide +kernel)
theorem mlX2_69 : ax_mv RX2 69 yX2_rank cX2_rank 3 (some .int) 0 := ⟨⟨ax_inT 3 129 (by decide +kernel), miX2, mcX2_rank, mdX2_rank, by decide⟩, mhX2_rank, meX2_rank⟩
theorem mcJ9_max_f86c9 : Cond.code yJ9_max_f86c9 cJ9_max_f86c9 4 (some .long) ∈ lw_use := ax_inC 3 132 rfl
theorem mdJ9_max_f86c9 : (yJ9_max_f86c9.cls ≠ "java/lang/invoke/MethodHandle" ∧ yJ9_max_f86c9.cls ≠ "java/lang/invoke/VarHandle" ∧ (parseMethodDescriptor yJ9_max_f86c9.desc).map (fun d => d.parameters.length) = some 2) := by decide +kernel
theorem msJ9_max_f86c9 : Cond.static yJ9_max_f86c9 ∈ lw_use := ax_inT 3 131 (by decide +kernel)
theorem mlX2_73 : ax_ms RX2 73 yJ9_max_f86c9 cJ9_max_f86c9 4 (some .long) 2 := ⟨⟨ax_inT 3 130 (by decide +kernel), miJ9, mcJ9_max_f86c9, mdJ9_max_f86c9, by decide⟩, msJ9_max_f86c9⟩
theorem mcX2_clear : Cond.code yX2_clear cX2_clear 3 none ∈ lw_use := ax_inC 2 203 rfl
theorem mdX2_clear : (yX2_clear.cls ≠ "java/lang/invoke/MethodHandle" ∧ yX2_clear.cls ≠ "java/lang/invoke/VarHandle" ∧ (parseMethodDescriptor yX2_clear.desc).map (fun d => d.parameters.length) = some 1) := by decide +kernel
theorem mhX2_clear : Cond.instanceMethod yX2_clear ∈ lw_use := ax_inT 2 201 (by decide +kernel)
theorem meX2_clear : Cond.selects yX2_clear.cls yX2_clear yX2_clear ∈ lw_use := ax_inT 2 202 (by decide +kernel)
theorem mlX2_78 : ax_mv RX2 78 yX2_clear cX2_clear 3 none 1 := ⟨⟨ax_inT 3 209 (by decide +kernel), miX2, mcX2_clear, mdX2_clear, by decide⟩, mhX2_clear, meX2_clear⟩
theorem mcX2_measure : Cond.code yX2_measure cX2_measure 6 none ∈ lw_use := ax_inC 4 7 rfl
theorem mdX2_measure : (yX2_measure.cls ≠ "java/lang/invoke/MethodHandle" ∧ yX2_measure.cls ≠ "java/lang/invoke/VarHandle" ∧ (parseMethodDescriptor yX2_measure.desc).map (fun d => d.parameters.length) = some 2) := by decide +kernel
theorem mhX2_measure : Cond.instanceMethod yX2_measure ∈ lw_use := ax_inT 4 6 (by decide +kernel)
theorem meX2_measure : Cond.selects yX2_measure.cls yX2_measure yX2_measure ∈ lw_use := ax_inT 8 12 (by decide +kernel)
theorem mlX2_81 : ax_mv RX2 81 yX2_measure cX2_measure 6 none 2 := ⟨⟨ax_inT 4 4 (by decide +kernel), miX2, mcX2_measure, mdX2_measure, by decide⟩, mhX2_measure, meX2_measure⟩
theorem mlX2_85 : ax_mv RX2 85 yX2_index cX2_index 4 (some .long) 0 := ⟨⟨ax_inT 3 4 (by decide +kernel), miX2, mcX2_index, mdX2_index, by decide⟩, mhX2_index, meX2_index⟩
theorem mcX2_divisorOfTwoRows : Cond.code yX2_divisorOfTwoRows cX2_divisorOfTwoRows 7 (some .long) ∈ lw_use := ax_inC 3 11 rfl
theorem mdX2_divisorOfTwoRows : (yX2_divisorOfTwoRows.cls ≠ "java/lang/invoke/MethodHandle" ∧ yX2_divisorOfTwoRows.cls ≠ "java/lang/invoke/VarHandle" ∧ (parseMethodDescriptor yX2_divisorOfTwoRows.desc).map (fun d => d.parameters.length) = some 2) := by decide +kernel
theorem mhX2_divisorOfTwoRows : Cond.instanceMethod yX2_divisorOfTwoRows ∈ lw_use := ax_inT 3 10 (by decide +kernel)
theorem meX2_divisorOfTwoRows : Cond.selects yX2_divisorOfTwoRows.cls yX2_divisorOfTwoRows yX2_divisorOfTwoRows ∈ lw_use := ax_inT 8 5 (by decide +kernel)
theorem mlX2_89 : ax_mv RX2 89 yX2_divisorOfTwoRows cX2_divisorOfTwoRows 7 (some .long) 2 := ⟨⟨ax_inT 3 8 (by decide +kernel), miX2, mcX2_divisorOfTwoRows, mdX2_divisorOfTwoRows, by decide⟩, mhX2_divisorOfTwoRows, meX2_divisorOfTwoRows⟩
theorem mlX3_11 : ax_mi RX3 11 yX2_init cX2_init 1 0 := ⟨⟨ax_inT 1 194 (by decide +kernel), miX2, mcX2_init, mdX2_init, by decide⟩, rfl, mhX2_init⟩
theorem mlX3_46 : ax_mv RX3 46 yX7_fillNothing cX7_fillNothing 5 none 2 := ⟨⟨ax_inT 3 178 (by decide +kernel), miX7, mcX7_fillNothing, mdX7_fillNothing, by decide⟩, mhX7_fillNothing, meX7_fillNothing⟩
theorem mcX7_respectsRelations : Cond.code yX7_respectsRelations cX7_respectsRelations 8 (some .boolean) ∈ lw_use := ax_inC 3 182 rfl
theorem mdX7_respectsRelations : (yX7_respectsRelations.cls ≠ "java/lang/invoke/MethodHandle" ∧ yX7_respectsRelations.cls ≠ "java/lang/invoke/VarHandle" ∧ (parseMethodDescriptor yX7_respectsRelations.desc).map (fun d => d.parameters.length) = some 4) := by decide +kernel
theorem mhX7_respectsRelations : Cond.instanceMethod yX7_respectsRelations ∈ lw_use := ax_inT 3 180 (by decide +kernel)
theorem meX7_respectsRelations : Cond.selects yX7_respectsRelations.cls yX7_respectsRelations yX7_respectsRelations ∈ lw_use := ax_inT 3 181 (by decide +kernel)
theorem mlX3_53 : ax_mv RX3 53 yX7_respectsRelations cX7_respectsRelations 8 (some .boolean) 4 := ⟨⟨ax_inT 3 179 (by decide +kernel), miX7, mcX7_respectsRelations, mdX7_respectsRelations, by decide⟩, mhX7_respectsRelations, meX7_respectsRelations⟩
theorem mlX3_61 : ax_mv RX3 61 yX2_clear cX2_clear 3 none 1 := ⟨⟨ax_inT 3 201 (by decide +kernel), miX2, mcX2_clear, mdX2_clear, by decide⟩, mhX2_clear, meX2_clear⟩
theorem mlX3_65 : ax_ms RX3 65 yJ7_fill_d0a16 cJ7_fill_d0a16 5 none 2 := ⟨⟨ax_inT 3 202 (by decide +kernel), miJ7, mcJ7_fill_d0a16, mdJ7_fill_d0a16, by decide⟩, msJ7_fill_d0a16⟩
theorem mlX3_81 : ax_mv RX3 81 yX2_insert cX2_insert 2 none 1 := ⟨⟨ax_inT 3 204 (by decide +kernel), miX2, mcX2_insert, mdX2_insert, by decide⟩, mhX2_insert, meX2_insert⟩
theorem mcX2_becomeFirstPlaces : Cond.code yX2_becomeFirstPlaces cX2_becomeFirstPlaces 4 none ∈ lw_use := ax_inC 3 208 rfl
theorem mdX2_becomeFirstPlaces : (yX2_becomeFirstPlaces.cls ≠ "java/lang/invoke/MethodHandle" ∧ yX2_becomeFirstPlaces.cls ≠ "java/lang/invoke/VarHandle" ∧ (parseMethodDescriptor yX2_becomeFirstPlaces.desc).map (fun d => d.parameters.length) = some 2) := by decide +kernel
theorem mhX2_becomeFirstPlaces : Cond.instanceMethod yX2_becomeFirstPlaces ∈ lw_use := ax_inT 3 206 (by decide +kernel)
theorem meX2_becomeFirstPlaces : Cond.selects yX2_becomeFirstPlaces.cls yX2_becomeFirstPlaces yX2_becomeFirstPlaces ∈ lw_use := ax_inT 3 207 (by decide +kernel)
theorem mlX3_88 : ax_mv RX3 88 yX2_becomeFirstPlaces cX2_becomeFirstPlaces 4 none 2 := ⟨⟨ax_inT 3 205 (by decide +kernel), miX2, mcX2_becomeFirstPlaces, mdX2_becomeFirstPlaces, by decide⟩, mhX2_becomeFirstPlaces, meX2_becomeFirstPlaces⟩
theorem mcX2_becomeLastPlaces : Cond.code yX2_becomeLastPlaces cX2_becomeLastPlaces 4 none ∈ lw_use := ax_inC 3 213 rfl
theorem mdX2_becomeLastPlaces : (yX2_becomeLastPlaces.cls ≠ "java/lang/invoke/MethodHandle" ∧ yX2_becomeLastPlaces.cls ≠ "java/lang/invoke/VarHandle" ∧ (parseMethodDescriptor yX2_becomeLastPlaces.desc).map (fun d => d.parameters.length) = some 2) := by decide +kernel
theorem mhX2_becomeLastPlaces : Cond.instanceMethod yX2_becomeLastPlaces ∈ lw_use := ax_inT 3 211 (by decide +kernel)
theorem meX2_becomeLastPlaces : Cond.selects yX2_becomeLastPlaces.cls yX2_becomeLastPlaces yX2_becomeLastPlaces ∈ lw_use := ax_inT 3 212 (by decide +kernel)
theorem mlX3_92 : ax_mv RX3 92 yX2_becomeLastPlaces cX2_becomeLastPlaces 4 none 2 := ⟨⟨ax_inT 3 210 (by decide +kernel), miX2, mcX2_becomeLastPlaces, mdX2_becomeLastPlaces, by decide⟩, mhX2_becomeLastPlaces, meX2_becomeLastPlaces⟩
theorem mlX3_95 : ax_mv RX3 95 yX2_isAs cX2_isAs 4 (some .boolean) 1 := ⟨⟨ax_inT 3 218 (by decide +kernel), miX2, mcX2_isAs, mdX2_isAs, by decide⟩, mhX2_isAs, meX2_isAs⟩
theorem mlX3_99 : ax_mv RX3 99 yX2_index cX2_index 4 (some .long) 0 := ⟨⟨ax_inT 3 226 (by decide +kernel), miX2, mcX2_index, mdX2_index, by decide⟩, mhX2_index, meX2_index⟩
theorem mcX2_becomeInside : Cond.code yX2_becomeInside cX2_becomeInside 4 none ∈ lw_use := ax_inC 4 3 rfl
theorem mdX2_becomeInside : (yX2_becomeInside.cls ≠ "java/lang/invoke/MethodHandle" ∧ yX2_becomeInside.cls ≠ "java/lang/invoke/VarHandle" ∧ (parseMethodDescriptor yX2_becomeInside.desc).map (fun d => d.parameters.length) = some 2) := by decide +kernel
theorem mhX2_becomeInside : Cond.instanceMethod yX2_becomeInside ∈ lw_use := ax_inT 4 1 (by decide +kernel)
theorem meX2_becomeInside : Cond.selects yX2_becomeInside.cls yX2_becomeInside yX2_becomeInside ∈ lw_use := ax_inT 4 2 (by decide +kernel)
theorem mlX3_103 : ax_mv RX3 103 yX2_becomeInside cX2_becomeInside 4 none 2 := ⟨⟨ax_inT 4 0 (by decide +kernel), miX2, mcX2_becomeInside, mdX2_becomeInside, by decide⟩, mhX2_becomeInside, meX2_becomeInside⟩
theorem mlX3_107 : ax_mv RX3 107 yX4_ofQuotient cX4_ofQuotient 8 none 1 := ⟨⟨ax_inT 4 8 (by decide +kernel), miX4, mcX4_ofQuotient, mdX4_ofQuotient, by decide⟩, mhX4_ofQuotient, meX4_ofQuotient⟩
theorem mlX3_113 : ax_mv RX3 113 yX2_reduce cX2_reduce 2 none 1 := ⟨⟨ax_inT 4 17 (by decide +kernel), miX2, mcX2_reduce, mdX2_reduce, by decide⟩, mhX2_reduce, meX2_reduce⟩
theorem mlX4_24 : ax_ms RX4 24 yJ9_min_7cf53 cJ9_min_7cf53 2 (some .int) 2 := ⟨⟨ax_inT 2 235 (by decide +kernel), miJ9, mcJ9_min_7cf53, mdJ9_min_7cf53, by decide⟩, msJ9_min_7cf53⟩
theorem mlX4_30 : ax_mv RX4 30 yX2_rank cX2_rank 3 (some .int) 0 := ⟨⟨ax_inT 2 236 (by decide +kernel), miX2, mcX2_rank, mdX2_rank, by decide⟩, mhX2_rank, meX2_rank⟩
theorem mcX2_divisorOfMinors : Cond.code yX2_divisorOfMinors cX2_divisorOfMinors 6 (some .long) ∈ lw_use := ax_inC 3 3 rfl
theorem mdX2_divisorOfMinors : (yX2_divisorOfMinors.cls ≠ "java/lang/invoke/MethodHandle" ∧ yX2_divisorOfMinors.cls ≠ "java/lang/invoke/VarHandle" ∧ (parseMethodDescriptor yX2_divisorOfMinors.desc).map (fun d => d.parameters.length) = some 1) := by decide +kernel
theorem mhX2_divisorOfMinors : Cond.instanceMethod yX2_divisorOfMinors ∈ lw_use := ax_inT 3 1 (by decide +kernel)
theorem meX2_divisorOfMinors : Cond.selects yX2_divisorOfMinors.cls yX2_divisorOfMinors yX2_divisorOfMinors ∈ lw_use := ax_inT 3 2 (by decide +kernel)
theorem mlX4_34 : ax_mv RX4 34 yX2_divisorOfMinors cX2_divisorOfMinors 6 (some .long) 1 := ⟨⟨ax_inT 3 0 (by decide +kernel), miX2, mcX2_divisorOfMinors, mdX2_divisorOfMinors, by decide⟩, mhX2_divisorOfMinors, meX2_divisorOfMinors⟩
theorem mcX4_takeAll : Cond.code yX4_takeAll cX4_takeAll 3 none ∈ lw_use := ax_inC 3 86 rfl
theorem mdX4_takeAll : (yX4_takeAll.cls ≠ "java/lang/invoke/MethodHandle" ∧ yX4_takeAll.cls ≠ "java/lang/invoke/VarHandle" ∧ (parseMethodDescriptor yX4_takeAll.desc).map (fun d => d.parameters.length) = some 1) := by decide +kernel
theorem mhX4_takeAll : Cond.instanceMethod yX4_takeAll ∈ lw_use := ax_inT 3 85 (by decide +kernel)
theorem meX4_takeAll : Cond.selects yX4_takeAll.cls yX4_takeAll yX4_takeAll ∈ lw_use := ax_inT 8 7 (by decide +kernel)
theorem mlX4_38 : ax_mv RX4 38 yX4_takeAll cX4_takeAll 3 none 1 := ⟨⟨ax_inT 3 83 (by decide +kernel), miX4, mcX4_takeAll, mdX4_takeAll, by decide⟩, mhX4_takeAll, meX4_takeAll⟩
theorem mcX4_ofPair : Cond.code yX4_ofPair cX4_ofPair 5 (some .long) ∈ lw_use := ax_inC 3 93 rfl
theorem mdX4_ofPair : (yX4_ofPair.cls ≠ "java/lang/invoke/MethodHandle" ∧ yX4_ofPair.cls ≠ "java/lang/invoke/VarHandle" ∧ (parseMethodDescriptor yX4_ofPair.desc).map (fun d => d.parameters.length) = some 3) := by decide +kernel
theorem msX4_ofPair : Cond.static yX4_ofPair ∈ lw_use := ax_inT 3 92 (by decide +kernel)
theorem mlX4_42 : ax_ms RX4 42 yX4_ofPair cX4_ofPair 5 (some .long) 3 := ⟨⟨ax_inT 3 91 (by decide +kernel), miX4, mcX4_ofPair, mdX4_ofPair, by decide⟩, msX4_ofPair⟩
theorem mcX4_take : Cond.code yX4_take cX4_take 3 none ∈ lw_use := ax_inC 3 90 rfl
theorem mdX4_take : (yX4_take.cls ≠ "java/lang/invoke/MethodHandle" ∧ yX4_take.cls ≠ "java/lang/invoke/VarHandle" ∧ (parseMethodDescriptor yX4_take.desc).map (fun d => d.parameters.length) = some 1) := by decide +kernel
theorem mhX4_take : Cond.instanceMethod yX4_take ∈ lw_use := ax_inT 3 89 (by decide +kernel)
theorem meX4_take : Cond.selects yX4_take.cls yX4_take yX4_take ∈ lw_use := ax_inT 8 8 (by decide +kernel)
theorem mlX4_46 : ax_mv RX4 46 yX4_take cX4_take 3 none 1 := ⟨⟨ax_inT 3 87 (by decide +kernel), miX4, mcX4_take, mdX4_take, by decide⟩, mhX4_take, meX4_take⟩
theorem mcX4_makeEachDivideTheNext : Cond.code yX4_makeEachDivideTheNext cX4_makeEachDivideTheNext 5 none ∈ lw_use := ax_inC 3 98 rfl
theorem mdX4_makeEachDivideTheNext : (yX4_makeEachDivideTheNext.cls ≠ "java/lang/invoke/MethodHandle" ∧ yX4_makeEachDivideTheNext.cls ≠ "java/lang/invoke/VarHandle" ∧ (parseMethodDescriptor yX4_makeEachDivideTheNext.desc).map (fun d => d.parameters.length) = some 0) := by decide +kernel
theorem mhX4_makeEachDivideTheNext : Cond.instanceMethod yX4_makeEachDivideTheNext ∈ lw_use := ax_inT 3 97 (by decide +kernel)
theorem meX4_makeEachDivideTheNext : Cond.selects yX4_makeEachDivideTheNext.cls yX4_makeEachDivideTheNext yX4_makeEachDivideTheNext ∈ lw_use := ax_inT 8 9 (by decide +kernel)
theorem mlX4_50 : ax_mv RX4 50 yX4_makeEachDivideTheNext cX4_makeEachDivideTheNext 5 none 0 := ⟨⟨ax_inT 3 95 (by decide +kernel), miX4, mcX4_makeEachDivideTheNext, mdX4_makeEachDivideTheNext, by decide⟩, mhX4_makeEachDivideTheNext, meX4_makeEachDivideTheNext⟩
theorem mlX4_57 : ax_mv RX4 57 yX4_countOwn cX4_countOwn 3 (some .int) 0 := ⟨⟨ax_inT 3 70 (by decide +kernel), miX4, mcX4_countOwn, mdX4_countOwn, by decide⟩, mhX4_countOwn, meX4_countOwn⟩
theorem mlX4_60 : ax_mv RX4 60 yX4_own cX4_own 3 (some .long) 1 := ⟨⟨ax_inT 3 71 (by decide +kernel), miX4, mcX4_own, mdX4_own, by decide⟩, mhX4_own, meX4_own⟩
theorem mlX5_22 : ax_ms RX5 22 yJ7_fill_d0a16 cJ7_fill_d0a16 5 none 2 := ⟨⟨ax_inT 4 238 (by decide +kernel), miJ7, mcJ7_fill_d0a16, mdJ7_fill_d0a16, by decide⟩, msJ7_fill_d0a16⟩
theorem mcJ7_fill_53178 : Cond.code yJ7_fill_53178 cJ7_fill_53178 4 none ∈ lw_use := ax_inC 1 32 rfl
theorem mdJ7_fill_53178 : (yJ7_fill_53178.cls ≠ "java/lang/invoke/MethodHandle" ∧ yJ7_fill_53178.cls ≠ "java/lang/invoke/VarHandle" ∧ (parseMethodDescriptor yJ7_fill_53178.desc).map (fun d => d.parameters.length) = some 2) := by decide +kernel
theorem msJ7_fill_53178 : Cond.static yJ7_fill_53178 ∈ lw_use := ax_inT 1 31 (by decide +kernel)
theorem mlX7_55 : ax_ms RX7 55 yJ7_fill_53178 cJ7_fill_53178 4 none 2 := ⟨⟨ax_inT 1 30 (by decide +kernel), miJ7, mcJ7_fill_53178, mdJ7_fill_53178, by decide⟩, msJ7_fill_53178⟩
theorem mcX7_copyAll : Cond.code yX7_copyAll cX7_copyAll 2 none ∈ lw_use := ax_inC 2 158 rfl
theorem mdX7_copyAll : (yX7_copyAll.cls ≠ "java/lang/invoke/MethodHandle" ∧ yX7_copyAll.cls ≠ "java/lang/invoke/VarHandle" ∧ (parseMethodDescriptor yX7_copyAll.desc).map (fun d => d.parameters.length) = some 2) := by decide +kernel
theorem msX7_copyAll : Cond.static yX7_copyAll ∈ lw_use := ax_inT 2 157 (by decide +kernel)
theorem mlX7_61 : ax_ms RX7 61 yX7_copyAll cX7_copyAll 2 none 2 := ⟨⟨ax_inT 2 156 (by decide +kernel), miX7, mcX7_copyAll, mdX7_copyAll, by decide⟩, msX7_copyAll⟩
theorem mlX7_65 : ax_ms RX7 65 yJ9_min_7cf53 cJ9_min_7cf53 2 (some .int) 2 := ⟨⟨ax_inT 2 159 (by decide +kernel), miJ9, mcJ9_min_7cf53, mdJ9_min_7cf53, by decide⟩, msJ9_min_7cf53⟩
theorem mlX7_77 : ax_mv RX7 77 yX2_clear cX2_clear 3 none 1 := ⟨⟨ax_inT 2 200 (by decide +kernel), miX2, mcX2_clear, mdX2_clear, by decide⟩, mhX2_clear, meX2_clear⟩
theorem mlX7_87 : ax_mv RX7 87 yX2_insertComing cX2_insertComing 2 none 0 := ⟨⟨ax_inT 2 211 (by decide +kernel), miX2, mcX2_insertComing, mdX2_insertComing, by decide⟩, mhX2_insertComing, meX2_insertComing⟩
theorem mlX7_90 : ax_mv RX7 90 yX7_hasMap cX7_hasMap 2 (some .boolean) 1 := ⟨⟨ax_inT 5 62 (by decide +kernel), miX7, mcX7_hasMap, mdX7_hasMap, by decide⟩, mhX7_hasMap, meX7_hasMap⟩
theorem mcJ7_fill_fda19 : Cond.code yJ7_fill_fda19 cJ7_fill_fda19 5 none ∈ lw_use := ax_inC 3 146 rfl
theorem mdJ7_fill_fda19 : (yJ7_fill_fda19.cls ≠ "java/lang/invoke/MethodHandle" ∧ yJ7_fill_fda19.cls ≠ "java/lang/invoke/VarHandle" ∧ (parseMethodDescriptor yJ7_fill_fda19.desc).map (fun d => d.parameters.length) = some 4) := by decide +kernel
theorem msJ7_fill_fda19 : Cond.static yJ7_fill_fda19 ∈ lw_use := ax_inT 3 145 (by decide +kernel)
theorem mlX7_94 : ax_ms RX7 94 yJ7_fill_fda19 cJ7_fill_fda19 5 none 4 := ⟨⟨ax_inT 3 144 (by decide +kernel), miJ7, mcJ7_fill_fda19, mdJ7_fill_fda19, by decide⟩, msJ7_fill_fda19⟩
theorem mcX7_applyTable : Cond.code yX7_applyTable cX7_applyTable 8 none ∈ lw_use := ax_inC 3 189 rfl
theorem mdX7_applyTable : (yX7_applyTable.cls ≠ "java/lang/invoke/MethodHandle" ∧ yX7_applyTable.cls ≠ "java/lang/invoke/VarHandle" ∧ (parseMethodDescriptor yX7_applyTable.desc).map (fun d => d.parameters.length) = some 4) := by decide +kernel
theorem msX7_applyTable : Cond.static yX7_applyTable ∈ lw_use := ax_inT 3 188 (by decide +kernel)
theorem mlX7_106 : ax_ms RX7 106 yX7_applyTable cX7_applyTable 8 none 4 := ⟨⟨ax_inT 3 187 (by decide +kernel), miX7, mcX7_applyTable, mdX7_applyTable, by decide⟩, msX7_applyTable⟩
theorem mlX7_110 : ax_mv RX7 110 yX7_mapRow cX7_mapRow 4 none 3 := ⟨⟨ax_inT 3 183 (by decide +kernel), miX7, mcX7_mapRow, mdX7_mapRow, by decide⟩, mhX7_mapRow, meX7_mapRow⟩
theorem mlX7_114 : ax_mv RX7 114 yX2_swallows cX2_swallows 2 (some .boolean) 1 := ⟨⟨ax_inT 3 190 (by decide +kernel), miX2, mcX2_swallows, mdX2_swallows, by decide⟩, mhX2_swallows, meX2_swallows⟩
theorem mcX7_shiftMove : Cond.code yX7_shiftMove cX7_shiftMove 3 none ∈ lw_use := ax_inC 4 199 rfl
theorem mdX7_shiftMove : (yX7_shiftMove.cls ≠ "java/lang/invoke/MethodHandle" ∧ yX7_shiftMove.cls ≠ "java/lang/invoke/VarHandle" ∧ (parseMethodDescriptor yX7_shiftMove.desc).map (fun d => d.parameters.length) = some 2) := by decide +kernel
theorem mhX7_shiftMove : Cond.instanceMethod yX7_shiftMove ∈ lw_use := ax_inT 4 198 (by decide +kernel)
theorem meX7_shiftMove : Cond.selects yX7_shiftMove.cls yX7_shiftMove yX7_shiftMove ∈ lw_use := ax_inT 9 11 (by decide +kernel)
theorem mlX7_118 : ax_mv RX7 118 yX7_shiftMove cX7_shiftMove 3 none 2 := ⟨⟨ax_inT 4 196 (by decide +kernel), miX7, mcX7_shiftMove, mdX7_shiftMove, by decide⟩, mhX7_shiftMove, meX7_shiftMove⟩
theorem mlX8_41 : ax_mv RX8 41 yX2_reduce cX2_reduce 2 none 1 := ⟨⟨ax_inT 4 104 (by decide +kernel), miX2, mcX2_reduce, mdX2_reduce, by decide⟩, mhX2_reduce, meX2_reduce⟩
theorem mcX8_init : Cond.code yX8_init cX8_init 1 none ∈ lw_use := ax_inC 1 125 rfl
theorem mdX8_init : (yX8_init.cls ≠ "java/lang/invoke/MethodHandle" ∧ yX8_init.cls ≠ "java/lang/invoke/VarHandle" ∧ (parseMethodDescriptor yX8_init.desc).map (fun d => d.parameters.length) = some 0) := by decide +kernel
theorem mhX8_init : Cond.instanceMethod yX8_init ∈ lw_use := ax_inT 1 124 (by decide +kernel)
theorem mlX9_47 : ax_mi RX9 47 yX8_init cX8_init 1 0 := ⟨⟨ax_inT 1 123 (by decide +kernel), miX8, mcX8_init, mdX8_init, by decide⟩, rfl, mhX8_init⟩
theorem mcX9_readSum : Cond.code yX9_readSum cX9_readSum 8 none ∈ lw_use := ax_inC 4 43 rfl
theorem mdX9_readSum : (yX9_readSum.cls ≠ "java/lang/invoke/MethodHandle" ∧ yX9_readSum.cls ≠ "java/lang/invoke/VarHandle" ∧ (parseMethodDescriptor yX9_readSum.desc).map (fun d => d.parameters.length) = some 2) := by decide +kernel
theorem mhX9_readSum : Cond.instanceMethod yX9_readSum ∈ lw_use := ax_inT 4 42 (by decide +kernel)
theorem meX9_readSum : Cond.selects yX9_readSum.cls yX9_readSum yX9_readSum ∈ lw_use := ax_inT 8 13 (by decide +kernel)
theorem mlX9_48 : ax_mv RX9 48 yX9_readSum cX9_readSum 8 none 2 := ⟨⟨ax_inT 4 40 (by decide +kernel), miX9, mcX9_readSum, mdX9_readSum, by decide⟩, mhX9_readSum, meX9_readSum⟩
theorem mcX9_look : Cond.code yX9_look cX9_look 1 (some .int) ∈ lw_use := ax_inC 4 51 rfl
theorem mdX9_look : (yX9_look.cls ≠ "java/lang/invoke/MethodHandle" ∧ yX9_look.cls ≠ "java/lang/invoke/VarHandle" ∧ (parseMethodDescriptor yX9_look.desc).map (fun d => d.parameters.length) = some 0) := by decide +kernel
theorem mhX9_look : Cond.instanceMethod yX9_look ∈ lw_use := ax_inT 4 50 (by decide +kernel)
theorem meX9_look : Cond.selects yX9_look.cls yX9_look yX9_look ∈ lw_use := ax_inT 8 15 (by decide +kernel)
theorem mlX9_52 : ax_mv RX9 52 yX9_look cX9_look 1 (some .int) 0 := ⟨⟨ax_inT 4 48 (by decide +kernel), miX9, mcX9_look, mdX9_look, by decide⟩, mhX9_look, meX9_look⟩
theorem mcX9_takeIf : Cond.code yX9_takeIf cX9_takeIf 2 (some .boolean) ∈ lw_use := ax_inC 4 47 rfl
theorem mdX9_takeIf : (yX9_takeIf.cls ≠ "java/lang/invoke/MethodHandle" ∧ yX9_takeIf.cls ≠ "java/lang/invoke/VarHandle" ∧ (parseMethodDescriptor yX9_takeIf.desc).map (fun d => d.parameters.length) = some 1) := by decide +kernel
theorem mhX9_takeIf : Cond.instanceMethod yX9_takeIf ∈ lw_use := ax_inT 4 46 (by decide +kernel)
theorem meX9_takeIf : Cond.selects yX9_takeIf.cls yX9_takeIf yX9_takeIf ∈ lw_use := ax_inT 8 14 (by decide +kernel)
theorem mlX9_56 : ax_mv RX9 56 yX9_takeIf cX9_takeIf 2 (some .boolean) 1 := ⟨⟨ax_inT 4 44 (by decide +kernel), miX9, mcX9_takeIf, mdX9_takeIf, by decide⟩, mhX9_takeIf, meX9_takeIf⟩
theorem mcX9_readChain : Cond.code yX9_readChain cX9_readChain 5 none ∈ lw_use := ax_inC 4 55 rfl
theorem mdX9_readChain : (yX9_readChain.cls ≠ "java/lang/invoke/MethodHandle" ∧ yX9_readChain.cls ≠ "java/lang/invoke/VarHandle" ∧ (parseMethodDescriptor yX9_readChain.desc).map (fun d => d.parameters.length) = some 2) := by decide +kernel
theorem mhX9_readChain : Cond.instanceMethod yX9_readChain ∈ lw_use := ax_inT 4 54 (by decide +kernel)
theorem meX9_readChain : Cond.selects yX9_readChain.cls yX9_readChain yX9_readChain ∈ lw_use := ax_inT 9 0 (by decide +kernel)
theorem mlX9_60 : ax_mv RX9 60 yX9_readChain cX9_readChain 5 none 2 := ⟨⟨ax_inT 4 52 (by decide +kernel), miX9, mcX9_readChain, mdX9_readChain, by decide⟩, mhX9_readChain, meX9_readChain⟩
theorem mcX8_becomeAs : Cond.code yX8_becomeAs cX8_becomeAs 2 none ∈ lw_use := ax_inC 4 72 rfl
theorem mdX8_becomeAs : (yX8_becomeAs.cls ≠ "java/lang/invoke/MethodHandle" ∧ yX8_becomeAs.cls ≠ "java/lang/invoke/VarHandle" ∧ (parseMethodDescriptor yX8_becomeAs.desc).map (fun d => d.parameters.length) = some 1) := by decide +kernel
theorem mhX8_becomeAs : Cond.instanceMethod yX8_becomeAs ∈ lw_use := ax_inT 4 70 (by decide +kernel)
theorem meX8_becomeAs : Cond.selects yX8_becomeAs.cls yX8_becomeAs yX8_becomeAs ∈ lw_use := ax_inT 4 71 (by decide +kernel)
theorem mlX9_63 : ax_mv RX9 63 yX8_becomeAs cX8_becomeAs 2 none 1 := ⟨⟨ax_inT 4 69 (by decide +kernel), miX8, mcX8_becomeAs, mdX8_becomeAs, by decide⟩, mhX8_becomeAs, meX8_becomeAs⟩
theorem mcX8_multiply : Cond.code yX8_multiply cX8_multiply 4 none ∈ lw_use := ax_inC 4 77 rfl
theorem mdX8_multiply : (yX8_multiply.cls ≠ "java/lang/invoke/MethodHandle" ∧ yX8_multiply.cls ≠ "java/lang/invoke/VarHandle" ∧ (parseMethodDescriptor yX8_multiply.desc).map (fun d => d.parameters.length) = some 1) := by decide +kernel
theorem mhX8_multiply : Cond.instanceMethod yX8_multiply ∈ lw_use := ax_inT 4 75 (by decide +kernel)
theorem meX8_multiply : Cond.selects yX8_multiply.cls yX8_multiply yX8_multiply ∈ lw_use := ax_inT 4 76 (by decide +kernel)
theorem mlX9_69 : ax_mv RX9 69 yX8_multiply cX8_multiply 4 none 1 := ⟨⟨ax_inT 4 74 (by decide +kernel), miX8, mcX8_multiply, mdX8_multiply, by decide⟩, mhX8_multiply, meX8_multiply⟩
theorem mcX8_increase : Cond.code yX8_increase cX8_increase 5 none ∈ lw_use := ax_inC 4 95 rfl
theorem mdX8_increase : (yX8_increase.cls ≠ "java/lang/invoke/MethodHandle" ∧ yX8_increase.cls ≠ "java/lang/invoke/VarHandle" ∧ (parseMethodDescriptor yX8_increase.desc).map (fun d => d.parameters.length) = some 2) := by decide +kernel
theorem mhX8_increase : Cond.instanceMethod yX8_increase ∈ lw_use := ax_inT 4 93 (by decide +kernel)
theorem meX8_increase : Cond.selects yX8_increase.cls yX8_increase yX8_increase ∈ lw_use := ax_inT 4 94 (by decide +kernel)
theorem mlX9_79 : ax_mv RX9 79 yX8_increase cX8_increase 5 none 2 := ⟨⟨ax_inT 4 92 (by decide +kernel), miX8, mcX8_increase, mdX8_increase, by decide⟩, mhX8_increase, meX8_increase⟩
theorem mcX9_watch : Cond.code yX9_watch cX9_watch 2 none ∈ lw_use := ax_inC 4 81 rfl
theorem mdX9_watch : (yX9_watch.cls ≠ "java/lang/invoke/MethodHandle" ∧ yX9_watch.cls ≠ "java/lang/invoke/VarHandle" ∧ (parseMethodDescriptor yX9_watch.desc).map (fun d => d.parameters.length) = some 1) := by decide +kernel
theorem mhX9_watch : Cond.instanceMethod yX9_watch ∈ lw_use := ax_inT 4 80 (by decide +kernel)
theorem meX9_watch : Cond.selects yX9_watch.cls yX9_watch yX9_watch ∈ lw_use := ax_inT 9 3 (by decide +kernel)
theorem mlX9_83 : ax_mv RX9 83 yX9_watch cX9_watch 2 none 1 := ⟨⟨ax_inT 4 78 (by decide +kernel), miX9, mcX9_watch, mdX9_watch, by decide⟩, mhX9_watch, meX9_watch⟩
theorem mcX9_readOne : Cond.code yX9_readOne cX9_readOne 6 none ∈ lw_use := ax_inC 4 59 rfl
theorem mdX9_readOne : (yX9_readOne.cls ≠ "java/lang/invoke/MethodHandle" ∧ yX9_readOne.cls ≠ "java/lang/invoke/VarHandle" ∧ (parseMethodDescriptor yX9_readOne.desc).map (fun d => d.parameters.length) = some 2) := by decide +kernel
theorem mhX9_readOne : Cond.instanceMethod yX9_readOne ∈ lw_use := ax_inT 4 58 (by decide +kernel)
theorem meX9_readOne : Cond.selects yX9_readOne.cls yX9_readOne yX9_readOne ∈ lw_use := ax_inT 9 1 (by decide +kernel)
theorem mlX9_86 : ax_mv RX9 86 yX9_readOne cX9_readOne 6 none 2 := ⟨⟨ax_inT 4 56 (by decide +kernel), miX9, mcX9_readOne, mdX9_readOne, by decide⟩, mhX9_readOne, meX9_readOne⟩
theorem mcX8_goOn : Cond.code yX8_goOn cX8_goOn 7 none ∈ lw_use := ax_inC 4 90 rfl
theorem mdX8_goOn : (yX8_goOn.cls ≠ "java/lang/invoke/MethodHandle" ∧ yX8_goOn.cls ≠ "java/lang/invoke/VarHandle" ∧ (parseMethodDescriptor yX8_goOn.desc).map (fun d => d.parameters.length) = some 1) := by decide +kernel
theorem mhX8_goOn : Cond.instanceMethod yX8_goOn ∈ lw_use := ax_inT 4 88 (by decide +kernel)
theorem meX8_goOn : Cond.selects yX8_goOn.cls yX8_goOn yX8_goOn ∈ lw_use := ax_inT 4 89 (by decide +kernel)
theorem mlX9_89 : ax_mv RX9 89 yX8_goOn cX8_goOn 7 none 1 := ⟨⟨ax_inT 4 87 (by decide +kernel), miX8, mcX8_goOn, mdX8_goOn, by decide⟩, mhX8_goOn, meX8_goOn⟩
theorem mcX9_readMap : Cond.code yX9_readMap cX9_readMap 4 none ∈ lw_use := ax_inC 4 63 rfl
theorem mdX9_readMap : (yX9_readMap.cls ≠ "java/lang/invoke/MethodHandle" ∧ yX9_readMap.cls ≠ "java/lang/invoke/VarHandle" ∧ (parseMethodDescriptor yX9_readMap.desc).map (fun d => d.parameters.length) = some 3) := by decide +kernel
theorem mhX9_readMap : Cond.instanceMethod yX9_readMap ∈ lw_use := ax_inT 4 62 (by decide +kernel)
theorem meX9_readMap : Cond.selects yX9_readMap.cls yX9_readMap yX9_readMap ∈ lw_use := ax_inT 9 2 (by decide +kernel)
theorem mlX9_92 : ax_mv RX9 92 yX9_readMap cX9_readMap 4 none 3 := ⟨⟨ax_inT 4 60 (by decide +kernel), miX9, mcX9_readMap, mdX9_readMap, by decide⟩, mhX9_readMap, meX9_readMap⟩
theorem mlX9_96 : ax_mv RX9 96 yX7_hasMap cX7_hasMap 2 (some .boolean) 1 := ⟨⟨ax_inT 4 64 (by decide +kernel), miX7, mcX7_hasMap, mdX7_hasMap, by decide⟩, mhX7_hasMap, meX7_hasMap⟩
theorem mcX8_becomeMap : Cond.code yX8_becomeMap cX8_becomeMap 4 none ∈ lw_use := ax_inC 4 68 rfl
theorem mdX8_becomeMap : (yX8_becomeMap.cls ≠ "java/lang/invoke/MethodHandle" ∧ yX8_becomeMap.cls ≠ "java/lang/invoke/VarHandle" ∧ (parseMethodDescriptor yX8_becomeMap.desc).map (fun d => d.parameters.length) = some 2) := by decide +kernel
theorem mhX8_becomeMap : Cond.instanceMethod yX8_becomeMap ∈ lw_use := ax_inT 4 66 (by decide +kernel)
theorem meX8_becomeMap : Cond.selects yX8_becomeMap.cls yX8_becomeMap yX8_becomeMap ∈ lw_use := ax_inT 4 67 (by decide +kernel)
theorem mlX9_101 : ax_mv RX9 101 yX8_becomeMap cX8_becomeMap 4 none 2 := ⟨⟨ax_inT 4 65 (by decide +kernel), miX8, mcX8_becomeMap, mdX8_becomeMap, by decide⟩, mhX8_becomeMap, meX8_becomeMap⟩
theorem mlX9_106 : ax_mv RX9 106 yX8_isWithin cX8_isWithin 4 (some .boolean) 1 := ⟨⟨ax_inT 4 83 (by decide +kernel), miX8, mcX8_isWithin, mdX8_isWithin, by decide⟩, mhX8_isWithin, meX8_isWithin⟩
theorem mcX10_init : Cond.code yX10_init cX10_init 2 none ∈ lw_use := ax_inC 1 20 rfl
theorem mdX10_init : (yX10_init.cls ≠ "java/lang/invoke/MethodHandle" ∧ yX10_init.cls ≠ "java/lang/invoke/VarHandle" ∧ (parseMethodDescriptor yX10_init.desc).map (fun d => d.parameters.length) = some 0) := by decide +kernel
theorem mhX10_init : Cond.instanceMethod yX10_init ∈ lw_use := ax_inT 1 19 (by decide +kernel)
theorem mlL_9 : ax_mi RL 9 yX10_init cX10_init 2 0 := ⟨⟨ax_inT 1 18 (by decide +kernel), miX10, mcX10_init, mdX10_init, by decide⟩, rfl, mhX10_init⟩
theorem mcX11_init : Cond.code yX11_init cX11_init 2 none ∈ lw_use := ax_inC 5 84 rfl
theorem mdX11_init : (yX11_init.cls ≠ "java/lang/invoke/MethodHandle" ∧ yX11_init.cls ≠ "java/lang/invoke/VarHandle" ∧ (parseMethodDescriptor yX11_init.desc).map (fun d => d.parameters.length) = some 0) := by decide +kernel
theorem mhX11_init : Cond.instanceMethod yX11_init ∈ lw_use := ax_inT 5 83 (by decide +kernel)
theorem mlL_12 : ax_mi RL 12 yX11_init cX11_init 2 0 := ⟨⟨ax_inT 5 82 (by decide +kernel), miX11, mcX11_init, mdX11_init, by decide⟩, rfl, mhX11_init⟩
theorem mcX10_group : Cond.code yX10_group cX10_group 4 (some .int) ∈ lw_use := ax_inC 2 144 rfl
theorem mdX10_group : (yX10_group.cls ≠ "java/lang/invoke/MethodHandle" ∧ yX10_group.cls ≠ "java/lang/invoke/VarHandle" ∧ (parseMethodDescriptor yX10_group.desc).map (fun d => d.parameters.length) = some 2) := by decide +kernel
theorem mhX10_group : Cond.instanceMethod yX10_group ∈ lw_use := ax_inT 2 142 (by decide +kernel)
theorem meX10_group : Cond.selects yX10_group.cls yX10_group yX10_group ∈ lw_use := ax_inT 2 143 (by decide +kernel)
theorem mlL_13 : ax_mv RL 13 yX10_group cX10_group 4 (some .int) 2 := ⟨⟨ax_inT 2 141 (by decide +kernel), miX10, mcX10_group, mdX10_group, by decide⟩, mhX10_group, meX10_group⟩
theorem mcX11_group : Cond.code yX11_group cX11_group 5 (some .int) ∈ lw_use := ax_inC 5 236 rfl
theorem mdX11_group : (yX11_group.cls ≠ "java/lang/invoke/MethodHandle" ∧ yX11_group.cls ≠ "java/lang/invoke/VarHandle" ∧ (parseMethodDescriptor yX11_group.desc).map (fun d => d.parameters.length) = some 2) := by decide +kernel
theorem mhX11_group : Cond.instanceMethod yX11_group ∈ lw_use := ax_inT 5 234 (by decide +kernel)
theorem meX11_group : Cond.selects yX11_group.cls yX11_group yX11_group ∈ lw_use := ax_inT 5 235 (by decide +kernel)
theorem mlL_17 : ax_mv RL 17 yX11_group cX11_group 5 (some .int) 2 := ⟨⟨ax_inT 5 233 (by decide +kernel), miX11, mcX11_group, mdX11_group, by decide⟩, mhX11_group, meX11_group⟩
theorem mcX10_relation : Cond.code yX10_relation cX10_relation 5 (some .int) ∈ lw_use := ax_inC 2 173 rfl
theorem mdX10_relation : (yX10_relation.cls ≠ "java/lang/invoke/MethodHandle" ∧ yX10_relation.cls ≠ "java/lang/invoke/VarHandle" ∧ (parseMethodDescriptor yX10_relation.desc).map (fun d => d.parameters.length) = some 4) := by decide +kernel
theorem mhX10_relation : Cond.instanceMethod yX10_relation ∈ lw_use := ax_inT 2 171 (by decide +kernel)
theorem meX10_relation : Cond.selects yX10_relation.cls yX10_relation yX10_relation ∈ lw_use := ax_inT 2 172 (by decide +kernel)
theorem mlL_18 : ax_mv RL 18 yX10_relation cX10_relation 5 (some .int) 4 := ⟨⟨ax_inT 2 170 (by decide +kernel), miX10, mcX10_relation, mdX10_relation, by decide⟩, mhX10_relation, meX10_relation⟩
theorem mcX11_relation : Cond.code yX11_relation cX11_relation 6 (some .int) ∈ lw_use := ax_inC 6 29 rfl
theorem mdX11_relation : (yX11_relation.cls ≠ "java/lang/invoke/MethodHandle" ∧ yX11_relation.cls ≠ "java/lang/invoke/VarHandle" ∧ (parseMethodDescriptor yX11_relation.desc).map (fun d => d.parameters.length) = some 4) := by decide +kernel
theorem mhX11_relation : Cond.instanceMethod yX11_relation ∈ lw_use := ax_inT 6 27 (by decide +kernel)
theorem meX11_relation : Cond.selects yX11_relation.cls yX11_relation yX11_relation ∈ lw_use := ax_inT 6 28 (by decide +kernel)
theorem mlL_22 : ax_mv RL 22 yX11_relation cX11_relation 6 (some .int) 4 := ⟨⟨ax_inT 6 26 (by decide +kernel), miX11, mcX11_relation, mdX11_relation, by decide⟩, mhX11_relation, meX11_relation⟩
theorem mcX10_groupIs : Cond.code yX10_groupIs cX10_groupIs 3 (some .int) ∈ lw_use := ax_inC 2 191 rfl
theorem mdX10_groupIs : (yX10_groupIs.cls ≠ "java/lang/invoke/MethodHandle" ∧ yX10_groupIs.cls ≠ "java/lang/invoke/VarHandle" ∧ (parseMethodDescriptor yX10_groupIs.desc).map (fun d => d.parameters.length) = some 2) := by decide +kernel
theorem mhX10_groupIs : Cond.instanceMethod yX10_groupIs ∈ lw_use := ax_inT 2 189 (by decide +kernel)
theorem meX10_groupIs : Cond.selects yX10_groupIs.cls yX10_groupIs yX10_groupIs ∈ lw_use := ax_inT 2 190 (by decide +kernel)
theorem mlL_23 : ax_mv RL 23 yX10_groupIs cX10_groupIs 3 (some .int) 2 := ⟨⟨ax_inT 2 188 (by decide +kernel), miX10, mcX10_groupIs, mdX10_groupIs, by decide⟩, mhX10_groupIs, meX10_groupIs⟩
theorem mcX11_groupIs : Cond.code yX11_groupIs cX11_groupIs 3 (some .int) ∈ lw_use := ax_inC 6 35 rfl
theorem mdX11_groupIs : (yX11_groupIs.cls ≠ "java/lang/invoke/MethodHandle" ∧ yX11_groupIs.cls ≠ "java/lang/invoke/VarHandle" ∧ (parseMethodDescriptor yX11_groupIs.desc).map (fun d => d.parameters.length) = some 2) := by decide +kernel
theorem mhX11_groupIs : Cond.instanceMethod yX11_groupIs ∈ lw_use := ax_inT 6 33 (by decide +kernel)
theorem meX11_groupIs : Cond.selects yX11_groupIs.cls yX11_groupIs yX11_groupIs ∈ lw_use := ax_inT 6 34 (by decide +kernel)
theorem mlL_26 : ax_mv RL 26 yX11_groupIs cX11_groupIs 3 (some .int) 2 := ⟨⟨ax_inT 6 32 (by decide +kernel), miX11, mcX11_groupIs, mdX11_groupIs, by decide⟩, mhX11_groupIs, meX11_groupIs⟩
theorem mcX10_ring : Cond.code yX10_ring cX10_ring 3 (some .int) ∈ lw_use := ax_inC 3 26 rfl
theorem mdX10_ring : (yX10_ring.cls ≠ "java/lang/invoke/MethodHandle" ∧ yX10_ring.cls ≠ "java/lang/invoke/VarHandle" ∧ (parseMethodDescriptor yX10_ring.desc).map (fun d => d.parameters.length) = some 2) := by decide +kernel
theorem mhX10_ring : Cond.instanceMethod yX10_ring ∈ lw_use := ax_inT 3 24 (by decide +kernel)
theorem meX10_ring : Cond.selects yX10_ring.cls yX10_ring yX10_ring ∈ lw_use := ax_inT 3 25 (by decide +kernel)
theorem mlL_27 : ax_mv RL 27 yX10_ring cX10_ring 3 (some .int) 2 := ⟨⟨ax_inT 3 23 (by decide +kernel), miX10, mcX10_ring, mdX10_ring, by decide⟩, mhX10_ring, meX10_ring⟩
theorem mcX11_ring : Cond.code yX11_ring cX11_ring 3 (some .int) ∈ lw_use := ax_inC 6 81 rfl
theorem mdX11_ring : (yX11_ring.cls ≠ "java/lang/invoke/MethodHandle" ∧ yX11_ring.cls ≠ "java/lang/invoke/VarHandle" ∧ (parseMethodDescriptor yX11_ring.desc).map (fun d => d.parameters.length) = some 2) := by decide +kernel
theorem mhX11_ring : Cond.instanceMethod yX11_ring ∈ lw_use := ax_inT 6 79 (by decide +kernel)
theorem meX11_ring : Cond.selects yX11_ring.cls yX11_ring yX11_ring ∈ lw_use := ax_inT 6 80 (by decide +kernel)
theorem mlL_30 : ax_mv RL 30 yX11_ring cX11_ring 3 (some .int) 2 := ⟨⟨ax_inT 6 78 (by decide +kernel), miX11, mcX11_ring, mdX11_ring, by decide⟩, mhX11_ring, meX11_ring⟩
theorem mcX10_step : Cond.code yX10_step cX10_step 3 (some .int) ∈ lw_use := ax_inC 3 34 rfl
theorem mdX10_step : (yX10_step.cls ≠ "java/lang/invoke/MethodHandle" ∧ yX10_step.cls ≠ "java/lang/invoke/VarHandle" ∧ (parseMethodDescriptor yX10_step.desc).map (fun d => d.parameters.length) = some 2) := by decide +kernel
theorem mhX10_step : Cond.instanceMethod yX10_step ∈ lw_use := ax_inT 3 32 (by decide +kernel)
theorem meX10_step : Cond.selects yX10_step.cls yX10_step yX10_step ∈ lw_use := ax_inT 3 33 (by decide +kernel)
theorem mlL_31 : ax_mv RL 31 yX10_step cX10_step 3 (some .int) 2 := ⟨⟨ax_inT 3 31 (by decide +kernel), miX10, mcX10_step, mdX10_step, by decide⟩, mhX10_step, meX10_step⟩
theorem mcX11_step : Cond.code yX11_step cX11_step 3 (some .int) ∈ lw_use := ax_inC 6 89 rfl
theorem mdX11_step : (yX11_step.cls ≠ "java/lang/invoke/MethodHandle" ∧ yX11_step.cls ≠ "java/lang/invoke/VarHandle" ∧ (parseMethodDescriptor yX11_step.desc).map (fun d => d.parameters.length) = some 2) := by decide +kernel
theorem mhX11_step : Cond.instanceMethod yX11_step ∈ lw_use := ax_inT 6 87 (by decide +kernel)
theorem meX11_step : Cond.selects yX11_step.cls yX11_step yX11_step ∈ lw_use := ax_inT 6 88 (by decide +kernel)
theorem mlL_34 : ax_mv RL 34 yX11_step cX11_step 3 (some .int) 2 := ⟨⟨ax_inT 6 86 (by decide +kernel), miX11, mcX11_step, mdX11_step, by decide⟩, mhX11_step, meX11_step⟩
theorem mcX10_normal : Cond.code yX10_normal cX10_normal 6 (some .long) ∈ lw_use := ax_inC 3 42 rfl
theorem mdX10_normal : (yX10_normal.cls ≠ "java/lang/invoke/MethodHandle" ∧ yX10_normal.cls ≠ "java/lang/invoke/VarHandle" ∧ (parseMethodDescriptor yX10_normal.desc).map (fun d => d.parameters.length) = some 5) := by decide +kernel
theorem mhX10_normal : Cond.instanceMethod yX10_normal ∈ lw_use := ax_inT 3 40 (by decide +kernel)
theorem meX10_normal : Cond.selects yX10_normal.cls yX10_normal yX10_normal ∈ lw_use := ax_inT 3 41 (by decide +kernel)
theorem mlL_35 : ax_mv RL 35 yX10_normal cX10_normal 6 (some .long) 5 := ⟨⟨ax_inT 3 39 (by decide +kernel), miX10, mcX10_normal, mdX10_normal, by decide⟩, mhX10_normal, meX10_normal⟩
theorem mcX11_normal : Cond.code yX11_normal cX11_normal 6 (some .long) ∈ lw_use := ax_inC 6 125 rfl
theorem mdX11_normal : (yX11_normal.cls ≠ "java/lang/invoke/MethodHandle" ∧ yX11_normal.cls ≠ "java/lang/invoke/VarHandle" ∧ (parseMethodDescriptor yX11_normal.desc).map (fun d => d.parameters.length) = some 5) := by decide +kernel
theorem mhX11_normal : Cond.instanceMethod yX11_normal ∈ lw_use := ax_inT 6 123 (by decide +kernel)
theorem meX11_normal : Cond.selects yX11_normal.cls yX11_normal yX11_normal ∈ lw_use := ax_inT 6 124 (by decide +kernel)
theorem mlL_39 : ax_mv RL 39 yX11_normal cX11_normal 6 (some .long) 5 := ⟨⟨ax_inT 6 122 (by decide +kernel), miX11, mcX11_normal, mdX11_normal, by decide⟩, mhX11_normal, meX11_normal⟩
theorem mcX10_order : Cond.code yX10_order cX10_order 5 (some .int) ∈ lw_use := ax_inC 3 57 rfl
theorem mdX10_order : (yX10_order.cls ≠ "java/lang/invoke/MethodHandle" ∧ yX10_order.cls ≠ "java/lang/invoke/VarHandle" ∧ (parseMethodDescriptor yX10_order.desc).map (fun d => d.parameters.length) = some 4) := by decide +kernel
theorem mhX10_order : Cond.instanceMethod yX10_order ∈ lw_use := ax_inT 3 55 (by decide +kernel)
theorem meX10_order : Cond.selects yX10_order.cls yX10_order yX10_order ∈ lw_use := ax_inT 3 56 (by decide +kernel)
theorem mlL_40 : ax_mv RL 40 yX10_order cX10_order 5 (some .int) 4 := ⟨⟨ax_inT 3 54 (by decide +kernel), miX10, mcX10_order, mdX10_order, by decide⟩, mhX10_order, meX10_order⟩
theorem mcX11_order : Cond.code yX11_order cX11_order 13 (some .int) ∈ lw_use := ax_inC 6 145 rfl
theorem mdX11_order : (yX11_order.cls ≠ "java/lang/invoke/MethodHandle" ∧ yX11_order.cls ≠ "java/lang/invoke/VarHandle" ∧ (parseMethodDescriptor yX11_order.desc).map (fun d => d.parameters.length) = some 4) := by decide +kernel
theorem mhX11_order : Cond.instanceMethod yX11_order ∈ lw_use := ax_inT 6 143 (by decide +kernel)
theorem meX11_order : Cond.selects yX11_order.cls yX11_order yX11_order ∈ lw_use := ax_inT 6 144 (by decide +kernel)
theorem mlL_43 : ax_mv RL 43 yX11_order cX11_order 13 (some .int) 4 := ⟨⟨ax_inT 6 142 (by decide +kernel), miX11, mcX11_order, mdX11_order, by decide⟩, mhX11_order, meX11_order⟩
theorem mcX10_same : Cond.code yX10_same cX10_same 3 (some .int) ∈ lw_use := ax_inC 3 65 rfl
theorem mdX10_same : (yX10_same.cls ≠ "java/lang/invoke/MethodHandle" ∧ yX10_same.cls ≠ "java/lang/invoke/VarHandle" ∧ (parseMethodDescriptor yX10_same.desc).map (fun d => d.parameters.length) = some 2) := by decide +kernel
theorem mhX10_same : Cond.instanceMethod yX10_same ∈ lw_use := ax_inT 3 63 (by decide +kernel)
theorem meX10_same : Cond.selects yX10_same.cls yX10_same yX10_same ∈ lw_use := ax_inT 3 64 (by decide +kernel)
theorem mlL_44 : ax_mv RL 44 yX10_same cX10_same 3 (some .int) 2 := ⟨⟨ax_inT 3 62 (by decide +kernel), miX10, mcX10_same, mdX10_same, by decide⟩, mhX10_same, meX10_same⟩
theorem mcX11_same : Cond.code yX11_same cX11_same 6 (some .int) ∈ lw_use := ax_inC 6 149 rfl
theorem mdX11_same : (yX11_same.cls ≠ "java/lang/invoke/MethodHandle" ∧ yX11_same.cls ≠ "java/lang/invoke/VarHandle" ∧ (parseMethodDescriptor yX11_same.desc).map (fun d => d.parameters.length) = some 2) := by decide +kernel
theorem mhX11_same : Cond.instanceMethod yX11_same ∈ lw_use := ax_inT 6 147 (by decide +kernel)
theorem meX11_same : Cond.selects yX11_same.cls yX11_same yX11_same ∈ lw_use := ax_inT 6 148 (by decide +kernel)
theorem mlL_47 : ax_mv RL 47 yX11_same cX11_same 6 (some .int) 2 := ⟨⟨ax_inT 6 146 (by decide +kernel), miX11, mcX11_same, mdX11_same, by decide⟩, mhX11_same, meX11_same⟩
theorem mcX10_ofTwo : Cond.code yX10_ofTwo cX10_ofTwo 5 (some .int) ∈ lw_use := ax_inC 3 78 rfl
theorem mdX10_ofTwo : (yX10_ofTwo.cls ≠ "java/lang/invoke/MethodHandle" ∧ yX10_ofTwo.cls ≠ "java/lang/invoke/VarHandle" ∧ (parseMethodDescriptor yX10_ofTwo.desc).map (fun d => d.parameters.length) = some 4) := by decide +kernel
theorem mhX10_ofTwo : Cond.instanceMethod yX10_ofTwo ∈ lw_use := ax_inT 3 76 (by decide +kernel)
theorem meX10_ofTwo : Cond.selects yX10_ofTwo.cls yX10_ofTwo yX10_ofTwo ∈ lw_use := ax_inT 3 77 (by decide +kernel)
theorem mlL_48 : ax_mv RL 48 yX10_ofTwo cX10_ofTwo 5 (some .int) 4 := ⟨⟨ax_inT 3 75 (by decide +kernel), miX10, mcX10_ofTwo, mdX10_ofTwo, by decide⟩, mhX10_ofTwo, meX10_ofTwo⟩
theorem mcX11_ofTwo : Cond.code yX11_ofTwo cX11_ofTwo 5 (some .int) ∈ lw_use := ax_inC 6 157 rfl
theorem mdX11_ofTwo : (yX11_ofTwo.cls ≠ "java/lang/invoke/MethodHandle" ∧ yX11_ofTwo.cls ≠ "java/lang/invoke/VarHandle" ∧ (parseMethodDescriptor yX11_ofTwo.desc).map (fun d => d.parameters.length) = some 4) := by decide +kernel
theorem mhX11_ofTwo : Cond.instanceMethod yX11_ofTwo ∈ lw_use := ax_inT 6 155 (by decide +kernel)
theorem meX11_ofTwo : Cond.selects yX11_ofTwo.cls yX11_ofTwo yX11_ofTwo ∈ lw_use := ax_inT 6 156 (by decide +kernel)
theorem mlL_51 : ax_mv RL 51 yX11_ofTwo cX11_ofTwo 5 (some .int) 4 := ⟨⟨ax_inT 6 154 (by decide +kernel), miX11, mcX11_ofTwo, mdX11_ofTwo, by decide⟩, mhX11_ofTwo, meX11_ofTwo⟩
theorem mcX10_span : Cond.code yX10_span cX10_span 9 (some .int) ∈ lw_use := ax_inC 3 106 rfl
theorem mdX10_span : (yX10_span.cls ≠ "java/lang/invoke/MethodHandle" ∧ yX10_span.cls ≠ "java/lang/invoke/VarHandle" ∧ (parseMethodDescriptor yX10_span.desc).map (fun d => d.parameters.length) = some 4) := by decide +kernel
theorem mhX10_span : Cond.instanceMethod yX10_span ∈ lw_use := ax_inT 3 104 (by decide +kernel)
theorem meX10_span : Cond.selects yX10_span.cls yX10_span yX10_span ∈ lw_use := ax_inT 3 105 (by decide +kernel)
theorem mlL_52 : ax_mv RL 52 yX10_span cX10_span 9 (some .int) 4 := ⟨⟨ax_inT 3 103 (by decide +kernel), miX10, mcX10_span, mdX10_span, by decide⟩, mhX10_span, meX10_span⟩
theorem mcX11_span : Cond.code yX11_span cX11_span 8 (some .int) ∈ lw_use := ax_inC 6 173 rfl
theorem mdX11_span : (yX11_span.cls ≠ "java/lang/invoke/MethodHandle" ∧ yX11_span.cls ≠ "java/lang/invoke/VarHandle" ∧ (parseMethodDescriptor yX11_span.desc).map (fun d => d.parameters.length) = some 4) := by decide +kernel
theorem mhX11_span : Cond.instanceMethod yX11_span ∈ lw_use := ax_inT 6 171 (by decide +kernel)
theorem meX11_span : Cond.selects yX11_span.cls yX11_span yX11_span ∈ lw_use := ax_inT 6 172 (by decide +kernel)
theorem mlL_55 : ax_mv RL 55 yX11_span cX11_span 8 (some .int) 4 := ⟨⟨ax_inT 6 170 (by decide +kernel), miX11, mcX11_span, mdX11_span, by decide⟩, mhX11_span, meX11_span⟩
theorem mcX10_map : Cond.code yX10_map cX10_map 4 (some .int) ∈ lw_use := ax_inC 3 136 rfl
theorem mdX10_map : (yX10_map.cls ≠ "java/lang/invoke/MethodHandle" ∧ yX10_map.cls ≠ "java/lang/invoke/VarHandle" ∧ (parseMethodDescriptor yX10_map.desc).map (fun d => d.parameters.length) = some 3) := by decide +kernel
theorem mhX10_map : Cond.instanceMethod yX10_map ∈ lw_use := ax_inT 3 134 (by decide +kernel)
theorem meX10_map : Cond.selects yX10_map.cls yX10_map yX10_map ∈ lw_use := ax_inT 3 135 (by decide +kernel)
theorem mlL_56 : ax_mv RL 56 yX10_map cX10_map 4 (some .int) 3 := ⟨⟨ax_inT 3 133 (by decide +kernel), miX10, mcX10_map, mdX10_map, by decide⟩, mhX10_map, meX10_map⟩
theorem mcX11_map : Cond.code yX11_map cX11_map 5 (some .int) ∈ lw_use := ax_inC 6 182 rfl
theorem mdX11_map : (yX11_map.cls ≠ "java/lang/invoke/MethodHandle" ∧ yX11_map.cls ≠ "java/lang/invoke/VarHandle" ∧ (parseMethodDescriptor yX11_map.desc).map (fun d => d.parameters.length) = some 3) := by decide +kernel
theorem mhX11_map : Cond.instanceMethod yX11_map ∈ lw_use := ax_inT 6 180 (by decide +kernel)
theorem meX11_map : Cond.selects yX11_map.cls yX11_map yX11_map ∈ lw_use := ax_inT 6 181 (by decide +kernel)
theorem mlL_60 : ax_mv RL 60 yX11_map cX11_map 5 (some .int) 3 := ⟨⟨ax_inT 6 179 (by decide +kernel), miX11, mcX11_map, mdX11_map, by decide⟩, mhX11_map, meX11_map⟩
theorem mcX10_entry : Cond.code yX10_entry cX10_entry 7 (some .int) ∈ lw_use := ax_inC 3 153 rfl
theorem mdX10_entry : (yX10_entry.cls ≠ "java/lang/invoke/MethodHandle" ∧ yX10_entry.cls ≠ "java/lang/invoke/VarHandle" ∧ (parseMethodDescriptor yX10_entry.desc).map (fun d => d.parameters.length) = some 4) := by decide +kernel
theorem mhX10_entry : Cond.instanceMethod yX10_entry ∈ lw_use := ax_inT 3 151 (by decide +kernel)
theorem meX10_entry : Cond.selects yX10_entry.cls yX10_entry yX10_entry ∈ lw_use := ax_inT 3 152 (by decide +kernel)
theorem mlL_61 : ax_mv RL 61 yX10_entry cX10_entry 7 (some .int) 4 := ⟨⟨ax_inT 3 150 (by decide +kernel), miX10, mcX10_entry, mdX10_entry, by decide⟩, mhX10_entry, meX10_entry⟩
theorem mcX11_entry : Cond.code yX11_entry cX11_entry 6 (some .int) ∈ lw_use := ax_inC 6 186 rfl
theorem mdX11_entry : (yX11_entry.cls ≠ "java/lang/invoke/MethodHandle" ∧ yX11_entry.cls ≠ "java/lang/invoke/VarHandle" ∧ (parseMethodDescriptor yX11_entry.desc).map (fun d => d.parameters.length) = some 4) := by decide +kernel
theorem mhX11_entry : Cond.instanceMethod yX11_entry ∈ lw_use := ax_inT 6 184 (by decide +kernel)
theorem meX11_entry : Cond.selects yX11_entry.cls yX11_entry yX11_entry ∈ lw_use := ax_inT 6 185 (by decide +kernel)
theorem mlL_64 : ax_mv RL 64 yX11_entry cX11_entry 6 (some .int) 4 := ⟨⟨ax_inT 6 183 (by decide +kernel), miX11, mcX11_entry, mdX11_entry, by decide⟩, mhX11_entry, meX11_entry⟩
theorem mcX10_at : Cond.code yX10_at cX10_at 4 (some .int) ∈ lw_use := ax_inC 3 169 rfl
theorem mdX10_at : (yX10_at.cls ≠ "java/lang/invoke/MethodHandle" ∧ yX10_at.cls ≠ "java/lang/invoke/VarHandle" ∧ (parseMethodDescriptor yX10_at.desc).map (fun d => d.parameters.length) = some 3) := by decide +kernel
theorem mhX10_at : Cond.instanceMethod yX10_at ∈ lw_use := ax_inT 3 167 (by decide +kernel)
theorem meX10_at : Cond.selects yX10_at.cls yX10_at yX10_at ∈ lw_use := ax_inT 3 168 (by decide +kernel)
theorem mlL_65 : ax_mv RL 65 yX10_at cX10_at 4 (some .int) 3 := ⟨⟨ax_inT 3 166 (by decide +kernel), miX10, mcX10_at, mdX10_at, by decide⟩, mhX10_at, meX10_at⟩
theorem mcX11_at : Cond.code yX11_at cX11_at 4 (some .int) ∈ lw_use := ax_inC 6 198 rfl
theorem mdX11_at : (yX11_at.cls ≠ "java/lang/invoke/MethodHandle" ∧ yX11_at.cls ≠ "java/lang/invoke/VarHandle" ∧ (parseMethodDescriptor yX11_at.desc).map (fun d => d.parameters.length) = some 3) := by decide +kernel
theorem mhX11_at : Cond.instanceMethod yX11_at ∈ lw_use := ax_inT 6 196 (by decide +kernel)
theorem meX11_at : Cond.selects yX11_at.cls yX11_at yX11_at ∈ lw_use := ax_inT 6 197 (by decide +kernel)
theorem mlL_68 : ax_mv RL 68 yX11_at cX11_at 4 (some .int) 3 := ⟨⟨ax_inT 6 195 (by decide +kernel), miX11, mcX11_at, mdX11_at, by decide⟩, mhX11_at, meX11_at⟩
theorem mcX10_mapIs : Cond.code yX10_mapIs cX10_mapIs 5 (some .int) ∈ lw_use := ax_inC 3 173 rfl
theorem mdX10_mapIs : (yX10_mapIs.cls ≠ "java/lang/invoke/MethodHandle" ∧ yX10_mapIs.cls ≠ "java/lang/invoke/VarHandle" ∧ (parseMethodDescriptor yX10_mapIs.desc).map (fun d => d.parameters.length) = some 2) := by decide +kernel
theorem mhX10_mapIs : Cond.instanceMethod yX10_mapIs ∈ lw_use := ax_inT 3 171 (by decide +kernel)
theorem meX10_mapIs : Cond.selects yX10_mapIs.cls yX10_mapIs yX10_mapIs ∈ lw_use := ax_inT 3 172 (by decide +kernel)
theorem mlL_69 : ax_mv RL 69 yX10_mapIs cX10_mapIs 5 (some .int) 2 := ⟨⟨ax_inT 3 170 (by decide +kernel), miX10, mcX10_mapIs, mdX10_mapIs, by decide⟩, mhX10_mapIs, meX10_mapIs⟩
theorem mcX11_mapIs : Cond.code yX11_mapIs cX11_mapIs 4 (some .int) ∈ lw_use := ax_inC 6 202 rfl
theorem mdX11_mapIs : (yX11_mapIs.cls ≠ "java/lang/invoke/MethodHandle" ∧ yX11_mapIs.cls ≠ "java/lang/invoke/VarHandle" ∧ (parseMethodDescriptor yX11_mapIs.desc).map (fun d => d.parameters.length) = some 2) := by decide +kernel
theorem mhX11_mapIs : Cond.instanceMethod yX11_mapIs ∈ lw_use := ax_inT 6 200 (by decide +kernel)
theorem meX11_mapIs : Cond.selects yX11_mapIs.cls yX11_mapIs yX11_mapIs ∈ lw_use := ax_inT 6 201 (by decide +kernel)
theorem mlL_72 : ax_mv RL 72 yX11_mapIs cX11_mapIs 4 (some .int) 2 := ⟨⟨ax_inT 6 199 (by decide +kernel), miX11, mcX11_mapIs, mdX11_mapIs, by decide⟩, mhX11_mapIs, meX11_mapIs⟩
theorem mcX10_image : Cond.code yX10_image cX10_image 6 (some .long) ∈ lw_use := ax_inC 3 230 rfl
theorem mdX10_image : (yX10_image.cls ≠ "java/lang/invoke/MethodHandle" ∧ yX10_image.cls ≠ "java/lang/invoke/VarHandle" ∧ (parseMethodDescriptor yX10_image.desc).map (fun d => d.parameters.length) = some 5) := by decide +kernel
theorem mhX10_image : Cond.instanceMethod yX10_image ∈ lw_use := ax_inT 3 228 (by decide +kernel)
theorem meX10_image : Cond.selects yX10_image.cls yX10_image yX10_image ∈ lw_use := ax_inT 3 229 (by decide +kernel)
theorem mlL_73 : ax_mv RL 73 yX10_image cX10_image 6 (some .long) 5 := ⟨⟨ax_inT 3 227 (by decide +kernel), miX10, mcX10_image, mdX10_image, by decide⟩, mhX10_image, meX10_image⟩
theorem mcX11_image : Cond.code yX11_image cX11_image 6 (some .long) ∈ lw_use := ax_inC 6 236 rfl
theorem mdX11_image : (yX11_image.cls ≠ "java/lang/invoke/MethodHandle" ∧ yX11_image.cls ≠ "java/lang/invoke/VarHandle" ∧ (parseMethodDescriptor yX11_image.desc).map (fun d => d.parameters.length) = some 5) := by decide +kernel
theorem mhX11_image : Cond.instanceMethod yX11_image ∈ lw_use := ax_inT 6 234 (by decide +kernel)
theorem meX11_image : Cond.selects yX11_image.cls yX11_image yX11_image ∈ lw_use := ax_inT 6 235 (by decide +kernel)
theorem mlL_76 : ax_mv RL 76 yX11_image cX11_image 6 (some .long) 5 := ⟨⟨ax_inT 6 233 (by decide +kernel), miX11, mcX11_image, mdX11_image, by decide⟩, mhX11_image, meX11_image⟩
theorem mcX10_part : Cond.code yX10_part cX10_part 4 (some .int) ∈ lw_use := ax_inC 3 235 rfl
theorem mdX10_part : (yX10_part.cls ≠ "java/lang/invoke/MethodHandle" ∧ yX10_part.cls ≠ "java/lang/invoke/VarHandle" ∧ (parseMethodDescriptor yX10_part.desc).map (fun d => d.parameters.length) = some 3) := by decide +kernel
theorem mhX10_part : Cond.instanceMethod yX10_part ∈ lw_use := ax_inT 3 233 (by decide +kernel)
theorem meX10_part : Cond.selects yX10_part.cls yX10_part yX10_part ∈ lw_use := ax_inT 3 234 (by decide +kernel)
theorem mlL_77 : ax_mv RL 77 yX10_part cX10_part 4 (some .int) 3 := ⟨⟨ax_inT 3 232 (by decide +kernel), miX10, mcX10_part, mdX10_part, by decide⟩, mhX10_part, meX10_part⟩
theorem mcX11_part : Cond.code yX11_part cX11_part 6 (some .int) ∈ lw_use := ax_inC 7 0 rfl
theorem mdX11_part : (yX11_part.cls ≠ "java/lang/invoke/MethodHandle" ∧ yX11_part.cls ≠ "java/lang/invoke/VarHandle" ∧ (parseMethodDescriptor yX11_part.desc).map (fun d => d.parameters.length) = some 3) := by decide +kernel
theorem mhX11_part : Cond.instanceMethod yX11_part ∈ lw_use := ax_inT 6 238 (by decide +kernel)
theorem meX11_part : Cond.selects yX11_part.cls yX11_part yX11_part ∈ lw_use := ax_inT 6 239 (by decide +kernel)
theorem mlL_80 : ax_mv RL 80 yX11_part cX11_part 6 (some .int) 3 := ⟨⟨ax_inT 6 237 (by decide +kernel), miX11, mcX11_part, mdX11_part, by decide⟩, mhX11_part, meX11_part⟩
theorem mcX10_whence : Cond.code yX10_whence cX10_whence 6 (some .long) ∈ lw_use := ax_inC 4 12 rfl
theorem mdX10_whence : (yX10_whence.cls ≠ "java/lang/invoke/MethodHandle" ∧ yX10_whence.cls ≠ "java/lang/invoke/VarHandle" ∧ (parseMethodDescriptor yX10_whence.desc).map (fun d => d.parameters.length) = some 5) := by decide +kernel
theorem mhX10_whence : Cond.instanceMethod yX10_whence ∈ lw_use := ax_inT 4 10 (by decide +kernel)
theorem meX10_whence : Cond.selects yX10_whence.cls yX10_whence yX10_whence ∈ lw_use := ax_inT 4 11 (by decide +kernel)
theorem mlL_81 : ax_mv RL 81 yX10_whence cX10_whence 6 (some .long) 5 := ⟨⟨ax_inT 4 9 (by decide +kernel), miX10, mcX10_whence, mdX10_whence, by decide⟩, mhX10_whence, meX10_whence⟩
theorem mcX11_whence : Cond.code yX11_whence cX11_whence 6 (some .long) ∈ lw_use := ax_inC 7 9 rfl
theorem mdX11_whence : (yX11_whence.cls ≠ "java/lang/invoke/MethodHandle" ∧ yX11_whence.cls ≠ "java/lang/invoke/VarHandle" ∧ (parseMethodDescriptor yX11_whence.desc).map (fun d => d.parameters.length) = some 5) := by decide +kernel
theorem mhX11_whence : Cond.instanceMethod yX11_whence ∈ lw_use := ax_inT 7 7 (by decide +kernel)
theorem meX11_whence : Cond.selects yX11_whence.cls yX11_whence yX11_whence ∈ lw_use := ax_inT 7 8 (by decide +kernel)
theorem mlL_84 : ax_mv RL 84 yX11_whence cX11_whence 6 (some .long) 5 := ⟨⟨ax_inT 7 6 (by decide +kernel), miX11, mcX11_whence, mdX11_whence, by decide⟩, mhX11_whence, meX11_whence⟩
theorem mcX10_exact : Cond.code yX10_exact cX10_exact 3 (some .int) ∈ lw_use := ax_inC 4 22 rfl
theorem mdX10_exact : (yX10_exact.cls ≠ "java/lang/invoke/MethodHandle" ∧ yX10_exact.cls ≠ "java/lang/invoke/VarHandle" ∧ (parseMethodDescriptor yX10_exact.desc).map (fun d => d.parameters.length) = some 2) := by decide +kernel
theorem mhX10_exact : Cond.instanceMethod yX10_exact ∈ lw_use := ax_inT 4 20 (by decide +kernel)
theorem meX10_exact : Cond.selects yX10_exact.cls yX10_exact yX10_exact ∈ lw_use := ax_inT 4 21 (by decide +kernel)
theorem mlL_85 : ax_mv RL 85 yX10_exact cX10_exact 3 (some .int) 2 := ⟨⟨ax_inT 4 19 (by decide +kernel), miX10, mcX10_exact, mdX10_exact, by decide⟩, mhX10_exact, meX10_exact⟩
theorem mcX11_exact : Cond.code yX11_exact cX11_exact 3 (some .int) ∈ lw_use := ax_inC 7 17 rfl
theorem mdX11_exact : (yX11_exact.cls ≠ "java/lang/invoke/MethodHandle" ∧ yX11_exact.cls ≠ "java/lang/invoke/VarHandle" ∧ (parseMethodDescriptor yX11_exact.desc).map (fun d => d.parameters.length) = some 2) := by decide +kernel
theorem mhX11_exact : Cond.instanceMethod yX11_exact ∈ lw_use := ax_inT 7 15 (by decide +kernel)
theorem meX11_exact : Cond.selects yX11_exact.cls yX11_exact yX11_exact ∈ lw_use := ax_inT 7 16 (by decide +kernel)
theorem mlL_88 : ax_mv RL 88 yX11_exact cX11_exact 3 (some .int) 2 := ⟨⟨ax_inT 7 14 (by decide +kernel), miX11, mcX11_exact, mdX11_exact, by decide⟩, mhX11_exact, meX11_exact⟩
theorem mcX10_feed : Cond.code yX10_feed cX10_feed 4 (some .int) ∈ lw_use := ax_inC 4 27 rfl
theorem mdX10_feed : (yX10_feed.cls ≠ "java/lang/invoke/MethodHandle" ∧ yX10_feed.cls ≠ "java/lang/invoke/VarHandle" ∧ (parseMethodDescriptor yX10_feed.desc).map (fun d => d.parameters.length) = some 2) := by decide +kernel
theorem mhX10_feed : Cond.instanceMethod yX10_feed ∈ lw_use := ax_inT 4 25 (by decide +kernel)
theorem meX10_feed : Cond.selects yX10_feed.cls yX10_feed yX10_feed ∈ lw_use := ax_inT 4 26 (by decide +kernel)
theorem mlL_91 : ax_mv RL 91 yX10_feed cX10_feed 4 (some .int) 2 := ⟨⟨ax_inT 4 24 (by decide +kernel), miX10, mcX10_feed, mdX10_feed, by decide⟩, mhX10_feed, meX10_feed⟩
theorem mcX11_feed : Cond.code yX11_feed cX11_feed 5 (some .int) ∈ lw_use := ax_inC 7 25 rfl
theorem mdX11_feed : (yX11_feed.cls ≠ "java/lang/invoke/MethodHandle" ∧ yX11_feed.cls ≠ "java/lang/invoke/VarHandle" ∧ (parseMethodDescriptor yX11_feed.desc).map (fun d => d.parameters.length) = some 2) := by decide +kernel
theorem mhX11_feed : Cond.instanceMethod yX11_feed ∈ lw_use := ax_inT 7 23 (by decide +kernel)
theorem meX11_feed : Cond.selects yX11_feed.cls yX11_feed yX11_feed ∈ lw_use := ax_inT 7 24 (by decide +kernel)
theorem mlL_95 : ax_mv RL 95 yX11_feed cX11_feed 5 (some .int) 2 := ⟨⟨ax_inT 7 22 (by decide +kernel), miX11, mcX11_feed, mdX11_feed, by decide⟩, mhX11_feed, meX11_feed⟩
theorem mcX10_text : Cond.code yX10_text cX10_text 4 (some .int) ∈ lw_use := ax_inC 4 35 rfl
theorem mdX10_text : (yX10_text.cls ≠ "java/lang/invoke/MethodHandle" ∧ yX10_text.cls ≠ "java/lang/invoke/VarHandle" ∧ (parseMethodDescriptor yX10_text.desc).map (fun d => d.parameters.length) = some 1) := by decide +kernel
theorem mhX10_text : Cond.instanceMethod yX10_text ∈ lw_use := ax_inT 4 33 (by decide +kernel)
theorem meX10_text : Cond.selects yX10_text.cls yX10_text yX10_text ∈ lw_use := ax_inT 4 34 (by decide +kernel)
theorem mlL_96 : ax_mv RL 96 yX10_text cX10_text 4 (some .int) 1 := ⟨⟨ax_inT 4 32 (by decide +kernel), miX10, mcX10_text, mdX10_text, by decide⟩, mhX10_text, meX10_text⟩
theorem mcX11_text : Cond.code yX11_text cX11_text 4 (some .int) ∈ lw_use := ax_inC 7 30 rfl
theorem mdX11_text : (yX11_text.cls ≠ "java/lang/invoke/MethodHandle" ∧ yX11_text.cls ≠ "java/lang/invoke/VarHandle" ∧ (parseMethodDescriptor yX11_text.desc).map (fun d => d.parameters.length) = some 1) := by decide +kernel
theorem mhX11_text : Cond.instanceMethod yX11_text ∈ lw_use := ax_inT 7 28 (by decide +kernel)
theorem meX11_text : Cond.selects yX11_text.cls yX11_text yX11_text ∈ lw_use := ax_inT 7 29 (by decide +kernel)
theorem mlL_100 : ax_mv RL 100 yX11_text cX11_text 4 (some .int) 1 := ⟨⟨ax_inT 7 27 (by decide +kernel), miX11, mcX11_text, mdX11_text, by decide⟩, mhX11_text, meX11_text⟩
theorem mcX10_diagram : Cond.code yX10_diagram cX10_diagram 4 (some .int) ∈ lw_use := ax_inC 4 113 rfl
theorem mdX10_diagram : (yX10_diagram.cls ≠ "java/lang/invoke/MethodHandle" ∧ yX10_diagram.cls ≠ "java/lang/invoke/VarHandle" ∧ (parseMethodDescriptor yX10_diagram.desc).map (fun d => d.parameters.length) = some 2) := by decide +kernel
theorem mhX10_diagram : Cond.instanceMethod yX10_diagram ∈ lw_use := ax_inT 4 111 (by decide +kernel)
theorem meX10_diagram : Cond.selects yX10_diagram.cls yX10_diagram yX10_diagram ∈ lw_use := ax_inT 4 112 (by decide +kernel)
theorem mlL_101 : ax_mv RL 101 yX10_diagram cX10_diagram 4 (some .int) 2 := ⟨⟨ax_inT 4 110 (by decide +kernel), miX10, mcX10_diagram, mdX10_diagram, by decide⟩, mhX10_diagram, meX10_diagram⟩
theorem mcX11_diagram : Cond.code yX11_diagram cX11_diagram 4 (some .int) ∈ lw_use := ax_inC 7 88 rfl
theorem mdX11_diagram : (yX11_diagram.cls ≠ "java/lang/invoke/MethodHandle" ∧ yX11_diagram.cls ≠ "java/lang/invoke/VarHandle" ∧ (parseMethodDescriptor yX11_diagram.desc).map (fun d => d.parameters.length) = some 2) := by decide +kernel
theorem mhX11_diagram : Cond.instanceMethod yX11_diagram ∈ lw_use := ax_inT 7 86 (by decide +kernel)
theorem meX11_diagram : Cond.selects yX11_diagram.cls yX11_diagram yX11_diagram ∈ lw_use := ax_inT 7 87 (by decide +kernel)
theorem mlL_104 : ax_mv RL 104 yX11_diagram cX11_diagram 4 (some .int) 2 := ⟨⟨ax_inT 7 85 (by decide +kernel), miX11, mcX11_diagram, mdX11_diagram, by decide⟩, mhX11_diagram, meX11_diagram⟩
theorem mcX10_connected : Cond.code yX10_connected cX10_connected 8 (some .long) ∈ lw_use := ax_inC 4 159 rfl
theorem mdX10_connected : (yX10_connected.cls ≠ "java/lang/invoke/MethodHandle" ∧ yX10_connected.cls ≠ "java/lang/invoke/VarHandle" ∧ (parseMethodDescriptor yX10_connected.desc).map (fun d => d.parameters.length) = some 6) := by decide +kernel
theorem mhX10_connected : Cond.instanceMethod yX10_connected ∈ lw_use := ax_inT 4 157 (by decide +kernel)
theorem meX10_connected : Cond.selects yX10_connected.cls yX10_connected yX10_connected ∈ lw_use := ax_inT 4 158 (by decide +kernel)
theorem mlL_105 : ax_mv RL 105 yX10_connected cX10_connected 8 (some .long) 6 := ⟨⟨ax_inT 4 156 (by decide +kernel), miX10, mcX10_connected, mdX10_connected, by decide⟩, mhX10_connected, meX10_connected⟩
theorem mcX11_connected : Cond.code yX11_connected cX11_connected 8 (some .long) ∈ lw_use := ax_inC 7 104 rfl
theorem mdX11_connected : (yX11_connected.cls ≠ "java/lang/invoke/MethodHandle" ∧ yX11_connected.cls ≠ "java/lang/invoke/VarHandle" ∧ (parseMethodDescriptor yX11_connected.desc).map (fun d => d.parameters.length) = some 6) := by decide +kernel
theorem mhX11_connected : Cond.instanceMethod yX11_connected ∈ lw_use := ax_inT 7 102 (by decide +kernel)
theorem meX11_connected : Cond.selects yX11_connected.cls yX11_connected yX11_connected ∈ lw_use := ax_inT 7 103 (by decide +kernel)
theorem mlL_109 : ax_mv RL 109 yX11_connected cX11_connected 8 (some .long) 6 := ⟨⟨ax_inT 7 101 (by decide +kernel), miX11, mcX11_connected, mdX11_connected, by decide⟩, mhX11_connected, meX11_connected⟩
theorem mcX10_move : Cond.code yX10_move cX10_move 3 (some .int) ∈ lw_use := ax_inC 4 178 rfl
theorem mdX10_move : (yX10_move.cls ≠ "java/lang/invoke/MethodHandle" ∧ yX10_move.cls ≠ "java/lang/invoke/VarHandle" ∧ (parseMethodDescriptor yX10_move.desc).map (fun d => d.parameters.length) = some 2) := by decide +kernel
theorem mhX10_move : Cond.instanceMethod yX10_move ∈ lw_use := ax_inT 4 176 (by decide +kernel)
theorem meX10_move : Cond.selects yX10_move.cls yX10_move yX10_move ∈ lw_use := ax_inT 4 177 (by decide +kernel)
theorem mlL_110 : ax_mv RL 110 yX10_move cX10_move 3 (some .int) 2 := ⟨⟨ax_inT 4 175 (by decide +kernel), miX10, mcX10_move, mdX10_move, by decide⟩, mhX10_move, meX10_move⟩
theorem mcX11_move : Cond.code yX11_move cX11_move 5 (some .int) ∈ lw_use := ax_inC 7 108 rfl
theorem mdX11_move : (yX11_move.cls ≠ "java/lang/invoke/MethodHandle" ∧ yX11_move.cls ≠ "java/lang/invoke/VarHandle" ∧ (parseMethodDescriptor yX11_move.desc).map (fun d => d.parameters.length) = some 2) := by decide +kernel
theorem mhX11_move : Cond.instanceMethod yX11_move ∈ lw_use := ax_inT 7 106 (by decide +kernel)
theorem meX11_move : Cond.selects yX11_move.cls yX11_move yX11_move ∈ lw_use := ax_inT 7 107 (by decide +kernel)
theorem mlL_113 : ax_mv RL 113 yX11_move cX11_move 5 (some .int) 2 := ⟨⟨ax_inT 7 105 (by decide +kernel), miX11, mcX11_move, mdX11_move, by decide⟩, mhX11_move, meX11_move⟩
theorem mcX10_stop : Cond.code yX10_stop cX10_stop 2 (some .int) ∈ lw_use := ax_inC 4 191 rfl
theorem mdX10_stop : (yX10_stop.cls ≠ "java/lang/invoke/MethodHandle" ∧ yX10_stop.cls ≠ "java/lang/invoke/VarHandle" ∧ (parseMethodDescriptor yX10_stop.desc).map (fun d => d.parameters.length) = some 1) := by decide +kernel
theorem mhX10_stop : Cond.instanceMethod yX10_stop ∈ lw_use := ax_inT 4 189 (by decide +kernel)
theorem meX10_stop : Cond.selects yX10_stop.cls yX10_stop yX10_stop ∈ lw_use := ax_inT 4 190 (by decide +kernel)
theorem mlL_114 : ax_mv RL 114 yX10_stop cX10_stop 2 (some .int) 1 := ⟨⟨ax_inT 4 188 (by decide +kernel), miX10, mcX10_stop, mdX10_stop, by decide⟩, mhX10_stop, meX10_stop⟩
theorem mcX11_stop : Cond.code yX11_stop cX11_stop 5 (some .int) ∈ lw_use := ax_inC 7 115 rfl
theorem mdX11_stop : (yX11_stop.cls ≠ "java/lang/invoke/MethodHandle" ∧ yX11_stop.cls ≠ "java/lang/invoke/VarHandle" ∧ (parseMethodDescriptor yX11_stop.desc).map (fun d => d.parameters.length) = some 1) := by decide +kernel
theorem mhX11_stop : Cond.instanceMethod yX11_stop ∈ lw_use := ax_inT 7 113 (by decide +kernel)
theorem meX11_stop : Cond.selects yX11_stop.cls yX11_stop yX11_stop ∈ lw_use := ax_inT 7 114 (by decide +kernel)
theorem mlL_117 : ax_mv RL 117 yX11_stop cX11_stop 5 (some .int) 1 := ⟨⟨ax_inT 7 112 (by decide +kernel), miX11, mcX11_stop, mdX11_stop, by decide⟩, mhX11_stop, meX11_stop⟩
theorem mcX10_run : Cond.code yX10_run cX10_run 8 (some .long) ∈ lw_use := ax_inC 4 203 rfl
theorem mdX10_run : (yX10_run.cls ≠ "java/lang/invoke/MethodHandle" ∧ yX10_run.cls ≠ "java/lang/invoke/VarHandle" ∧ (parseMethodDescriptor yX10_run.desc).map (fun d => d.parameters.length) = some 5) := by decide +kernel
theorem mhX10_run : Cond.instanceMethod yX10_run ∈ lw_use := ax_inT 4 201 (by decide +kernel)
theorem meX10_run : Cond.selects yX10_run.cls yX10_run yX10_run ∈ lw_use := ax_inT 4 202 (by decide +kernel)
theorem mlL_118 : ax_mv RL 118 yX10_run cX10_run 8 (some .long) 5 := ⟨⟨ax_inT 4 200 (by decide +kernel), miX10, mcX10_run, mdX10_run, by decide⟩, mhX10_run, meX10_run⟩
theorem mcX11_run : Cond.code yX11_run cX11_run 7 (some .long) ∈ lw_use := ax_inC 7 119 rfl
theorem mdX11_run : (yX11_run.cls ≠ "java/lang/invoke/MethodHandle" ∧ yX11_run.cls ≠ "java/lang/invoke/VarHandle" ∧ (parseMethodDescriptor yX11_run.desc).map (fun d => d.parameters.length) = some 5) := by decide +kernel
theorem mhX11_run : Cond.instanceMethod yX11_run ∈ lw_use := ax_inT 7 117 (by decide +kernel)
theorem meX11_run : Cond.selects yX11_run.cls yX11_run yX11_run ∈ lw_use := ax_inT 7 118 (by decide +kernel)
theorem mlL_121 : ax_mv RL 121 yX11_run cX11_run 7 (some .long) 5 := ⟨⟨ax_inT 7 116 (by decide +kernel), miX11, mcX11_run, mdX11_run, by decide⟩, mhX11_run, meX11_run⟩
theorem mcX10_undo : Cond.code yX10_undo cX10_undo 1 (some .int) ∈ lw_use := ax_inC 4 225 rfl
theorem mdX10_undo : (yX10_undo.cls ≠ "java/lang/invoke/MethodHandle" ∧ yX10_undo.cls ≠ "java/lang/invoke/VarHandle" ∧ (parseMethodDescriptor yX10_undo.desc).map (fun d => d.parameters.length) = some 0) := by decide +kernel
theorem mhX10_undo : Cond.instanceMethod yX10_undo ∈ lw_use := ax_inT 4 223 (by decide +kernel)
theorem meX10_undo : Cond.selects yX10_undo.cls yX10_undo yX10_undo ∈ lw_use := ax_inT 4 224 (by decide +kernel)
theorem mlL_122 : ax_mv RL 122 yX10_undo cX10_undo 1 (some .int) 0 := ⟨⟨ax_inT 4 222 (by decide +kernel), miX10, mcX10_undo, mdX10_undo, by decide⟩, mhX10_undo, meX10_undo⟩
theorem mcX11_undo : Cond.code yX11_undo cX11_undo 1 (some .int) ∈ lw_use := ax_inC 5 229 rfl
theorem mdX11_undo : (yX11_undo.cls ≠ "java/lang/invoke/MethodHandle" ∧ yX11_undo.cls ≠ "java/lang/invoke/VarHandle" ∧ (parseMethodDescriptor yX11_undo.desc).map (fun d => d.parameters.length) = some 0) := by decide +kernel
theorem mhX11_undo : Cond.instanceMethod yX11_undo ∈ lw_use := ax_inT 5 227 (by decide +kernel)
theorem meX11_undo : Cond.selects yX11_undo.cls yX11_undo yX11_undo ∈ lw_use := ax_inT 5 228 (by decide +kernel)
theorem mlL_126 : ax_mv RL 126 yX11_undo cX11_undo 1 (some .int) 0 := ⟨⟨ax_inT 5 226 (by decide +kernel), miX11, mcX11_undo, mdX11_undo, by decide⟩, mhX11_undo, meX11_undo⟩
theorem mcX10_sheet : Cond.code yX10_sheet cX10_sheet 4 (some .int) ∈ lw_use := ax_inC 4 233 rfl
theorem mdX10_sheet : (yX10_sheet.cls ≠ "java/lang/invoke/MethodHandle" ∧ yX10_sheet.cls ≠ "java/lang/invoke/VarHandle" ∧ (parseMethodDescriptor yX10_sheet.desc).map (fun d => d.parameters.length) = some 3) := by decide +kernel
theorem mhX10_sheet : Cond.instanceMethod yX10_sheet ∈ lw_use := ax_inT 4 231 (by decide +kernel)
theorem meX10_sheet : Cond.selects yX10_sheet.cls yX10_sheet yX10_sheet ∈ lw_use := ax_inT 4 232 (by decide +kernel)
theorem mlL_127 : ax_mv RL 127 yX10_sheet cX10_sheet 4 (some .int) 3 := ⟨⟨ax_inT 4 230 (by decide +kernel), miX10, mcX10_sheet, mdX10_sheet, by decide⟩, mhX10_sheet, meX10_sheet⟩
theorem mcX11_sheet : Cond.code yX11_sheet cX11_sheet 5 (some .int) ∈ lw_use := ax_inC 7 135 rfl
theorem mdX11_sheet : (yX11_sheet.cls ≠ "java/lang/invoke/MethodHandle" ∧ yX11_sheet.cls ≠ "java/lang/invoke/VarHandle" ∧ (parseMethodDescriptor yX11_sheet.desc).map (fun d => d.parameters.length) = some 3) := by decide +kernel
theorem mhX11_sheet : Cond.instanceMethod yX11_sheet ∈ lw_use := ax_inT 7 133 (by decide +kernel)
theorem meX11_sheet : Cond.selects yX11_sheet.cls yX11_sheet yX11_sheet ∈ lw_use := ax_inT 7 134 (by decide +kernel)
theorem mlL_130 : ax_mv RL 130 yX11_sheet cX11_sheet 5 (some .int) 3 := ⟨⟨ax_inT 7 132 (by decide +kernel), miX11, mcX11_sheet, mdX11_sheet, by decide⟩, mhX11_sheet, meX11_sheet⟩
theorem mcX10_put : Cond.code yX10_put cX10_put 7 (some .int) ∈ lw_use := ax_inC 5 2 rfl
theorem mdX10_put : (yX10_put.cls ≠ "java/lang/invoke/MethodHandle" ∧ yX10_put.cls ≠ "java/lang/invoke/VarHandle" ∧ (parseMethodDescriptor yX10_put.desc).map (fun d => d.parameters.length) = some 3) := by decide +kernel
theorem mhX10_put : Cond.instanceMethod yX10_put ∈ lw_use := ax_inT 5 0 (by decide +kernel)
theorem meX10_put : Cond.selects yX10_put.cls yX10_put yX10_put ∈ lw_use := ax_inT 5 1 (by decide +kernel)
theorem mlL_131 : ax_mv RL 131 yX10_put cX10_put 7 (some .int) 3 := ⟨⟨ax_inT 4 239 (by decide +kernel), miX10, mcX10_put, mdX10_put, by decide⟩, mhX10_put, meX10_put⟩
theorem mcX11_put : Cond.code yX11_put cX11_put 5 (some .int) ∈ lw_use := ax_inC 7 139 rfl
theorem mdX11_put : (yX11_put.cls ≠ "java/lang/invoke/MethodHandle" ∧ yX11_put.cls ≠ "java/lang/invoke/VarHandle" ∧ (parseMethodDescriptor yX11_put.desc).map (fun d => d.parameters.length) = some 3) := by decide +kernel
theorem mhX11_put : Cond.instanceMethod yX11_put ∈ lw_use := ax_inT 7 137 (by decide +kernel)
theorem meX11_put : Cond.selects yX11_put.cls yX11_put yX11_put ∈ lw_use := ax_inT 7 138 (by decide +kernel)
theorem mlL_135 : ax_mv RL 135 yX11_put cX11_put 5 (some .int) 3 := ⟨⟨ax_inT 7 136 (by decide +kernel), miX11, mcX11_put, mdX11_put, by decide⟩, mhX11_put, meX11_put⟩
theorem mcX10_item : Cond.code yX10_item cX10_item 5 (some .int) ∈ lw_use := ax_inC 5 6 rfl
theorem mdX10_item : (yX10_item.cls ≠ "java/lang/invoke/MethodHandle" ∧ yX10_item.cls ≠ "java/lang/invoke/VarHandle" ∧ (parseMethodDescriptor yX10_item.desc).map (fun d => d.parameters.length) = some 3) := by decide +kernel
theorem mhX10_item : Cond.instanceMethod yX10_item ∈ lw_use := ax_inT 5 4 (by decide +kernel)
theorem meX10_item : Cond.selects yX10_item.cls yX10_item yX10_item ∈ lw_use := ax_inT 5 5 (by decide +kernel)
theorem mlL_136 : ax_mv RL 136 yX10_item cX10_item 5 (some .int) 3 := ⟨⟨ax_inT 5 3 (by decide +kernel), miX10, mcX10_item, mdX10_item, by decide⟩, mhX10_item, meX10_item⟩
theorem mcX11_item : Cond.code yX11_item cX11_item 4 (some .int) ∈ lw_use := ax_inC 7 143 rfl
theorem mdX11_item : (yX11_item.cls ≠ "java/lang/invoke/MethodHandle" ∧ yX11_item.cls ≠ "java/lang/invoke/VarHandle" ∧ (parseMethodDescriptor yX11_item.desc).map (fun d => d.parameters.length) = some 3) := by decide +kernel
theorem mhX11_item : Cond.instanceMethod yX11_item ∈ lw_use := ax_inT 7 141 (by decide +kernel)
theorem meX11_item : Cond.selects yX11_item.cls yX11_item yX11_item ∈ lw_use := ax_inT 7 142 (by decide +kernel)
theorem mlL_139 : ax_mv RL 139 yX11_item cX11_item 4 (some .int) 3 := ⟨⟨ax_inT 7 140 (by decide +kernel), miX11, mcX11_item, mdX11_item, by decide⟩, mhX11_item, meX11_item⟩
theorem mcX10_lay : Cond.code yX10_lay cX10_lay 6 (some .int) ∈ lw_use := ax_inC 5 10 rfl
theorem mdX10_lay : (yX10_lay.cls ≠ "java/lang/invoke/MethodHandle" ∧ yX10_lay.cls ≠ "java/lang/invoke/VarHandle" ∧ (parseMethodDescriptor yX10_lay.desc).map (fun d => d.parameters.length) = some 5) := by decide +kernel
theorem mhX10_lay : Cond.instanceMethod yX10_lay ∈ lw_use := ax_inT 5 8 (by decide +kernel)
theorem meX10_lay : Cond.selects yX10_lay.cls yX10_lay yX10_lay ∈ lw_use := ax_inT 5 9 (by decide +kernel)
theorem mlL_140 : ax_mv RL 140 yX10_lay cX10_lay 6 (some .int) 5 := ⟨⟨ax_inT 5 7 (by decide +kernel), miX10, mcX10_lay, mdX10_lay, by decide⟩, mhX10_lay, meX10_lay⟩
theorem mcX11_lay : Cond.code yX11_lay cX11_lay 7 (some .int) ∈ lw_use := ax_inC 7 147 rfl
theorem mdX11_lay : (yX11_lay.cls ≠ "java/lang/invoke/MethodHandle" ∧ yX11_lay.cls ≠ "java/lang/invoke/VarHandle" ∧ (parseMethodDescriptor yX11_lay.desc).map (fun d => d.parameters.length) = some 5) := by decide +kernel
theorem mhX11_lay : Cond.instanceMethod yX11_lay ∈ lw_use := ax_inT 7 145 (by decide +kernel)
theorem meX11_lay : Cond.selects yX11_lay.cls yX11_lay yX11_lay ∈ lw_use := ax_inT 7 146 (by decide +kernel)
theorem mlL_144 : ax_mv RL 144 yX11_lay cX11_lay 7 (some .int) 5 := ⟨⟨ax_inT 7 144 (by decide +kernel), miX11, mcX11_lay, mdX11_lay, by decide⟩, mhX11_lay, meX11_lay⟩
theorem mcX10_hold : Cond.code yX10_hold cX10_hold 3 (some .int) ∈ lw_use := ax_inC 5 22 rfl
theorem mdX10_hold : (yX10_hold.cls ≠ "java/lang/invoke/MethodHandle" ∧ yX10_hold.cls ≠ "java/lang/invoke/VarHandle" ∧ (parseMethodDescriptor yX10_hold.desc).map (fun d => d.parameters.length) = some 2) := by decide +kernel
theorem mhX10_hold : Cond.instanceMethod yX10_hold ∈ lw_use := ax_inT 5 20 (by decide +kernel)
theorem meX10_hold : Cond.selects yX10_hold.cls yX10_hold yX10_hold ∈ lw_use := ax_inT 5 21 (by decide +kernel)
theorem mlL_145 : ax_mv RL 145 yX10_hold cX10_hold 3 (some .int) 2 := ⟨⟨ax_inT 5 19 (by decide +kernel), miX10, mcX10_hold, mdX10_hold, by decide⟩, mhX10_hold, meX10_hold⟩
theorem mcX11_hold : Cond.code yX11_hold cX11_hold 4 (some .int) ∈ lw_use := ax_inC 7 154 rfl
theorem mdX11_hold : (yX11_hold.cls ≠ "java/lang/invoke/MethodHandle" ∧ yX11_hold.cls ≠ "java/lang/invoke/VarHandle" ∧ (parseMethodDescriptor yX11_hold.desc).map (fun d => d.parameters.length) = some 2) := by decide +kernel
theorem mhX11_hold : Cond.instanceMethod yX11_hold ∈ lw_use := ax_inT 7 152 (by decide +kernel)
theorem meX11_hold : Cond.selects yX11_hold.cls yX11_hold yX11_hold ∈ lw_use := ax_inT 7 153 (by decide +kernel)
theorem mlL_148 : ax_mv RL 148 yX11_hold cX11_hold 4 (some .int) 2 := ⟨⟨ax_inT 7 151 (by decide +kernel), miX11, mcX11_hold, mdX11_hold, by decide⟩, mhX11_hold, meX11_hold⟩
theorem mcX10_add : Cond.code yX10_add cX10_add 6 (some .int) ∈ lw_use := ax_inC 5 30 rfl
theorem mdX10_add : (yX10_add.cls ≠ "java/lang/invoke/MethodHandle" ∧ yX10_add.cls ≠ "java/lang/invoke/VarHandle" ∧ (parseMethodDescriptor yX10_add.desc).map (fun d => d.parameters.length) = some 2) := by decide +kernel
theorem mhX10_add : Cond.instanceMethod yX10_add ∈ lw_use := ax_inT 5 28 (by decide +kernel)
theorem meX10_add : Cond.selects yX10_add.cls yX10_add yX10_add ∈ lw_use := ax_inT 5 29 (by decide +kernel)
theorem mlL_149 : ax_mv RL 149 yX10_add cX10_add 6 (some .int) 2 := ⟨⟨ax_inT 5 27 (by decide +kernel), miX10, mcX10_add, mdX10_add, by decide⟩, mhX10_add, meX10_add⟩
theorem mcX11_add : Cond.code yX11_add cX11_add 5 (some .int) ∈ lw_use := ax_inC 7 158 rfl
theorem mdX11_add : (yX11_add.cls ≠ "java/lang/invoke/MethodHandle" ∧ yX11_add.cls ≠ "java/lang/invoke/VarHandle" ∧ (parseMethodDescriptor yX11_add.desc).map (fun d => d.parameters.length) = some 2) := by decide +kernel
theorem mhX11_add : Cond.instanceMethod yX11_add ∈ lw_use := ax_inT 7 156 (by decide +kernel)
theorem meX11_add : Cond.selects yX11_add.cls yX11_add yX11_add ∈ lw_use := ax_inT 7 157 (by decide +kernel)
theorem mlL_152 : ax_mv RL 152 yX11_add cX11_add 5 (some .int) 2 := ⟨⟨ax_inT 7 155 (by decide +kernel), miX11, mcX11_add, mdX11_add, by decide⟩, mhX11_add, meX11_add⟩
theorem mcX10_rest : Cond.code yX10_rest cX10_rest 4 (some .int) ∈ lw_use := ax_inC 5 42 rfl
theorem mdX10_rest : (yX10_rest.cls ≠ "java/lang/invoke/MethodHandle" ∧ yX10_rest.cls ≠ "java/lang/invoke/VarHandle" ∧ (parseMethodDescriptor yX10_rest.desc).map (fun d => d.parameters.length) = some 1) := by decide +kernel
theorem mhX10_rest : Cond.instanceMethod yX10_rest ∈ lw_use := ax_inT 5 40 (by decide +kernel)
theorem meX10_rest : Cond.selects yX10_rest.cls yX10_rest yX10_rest ∈ lw_use := ax_inT 5 41 (by decide +kernel)
theorem mlL_153 : ax_mv RL 153 yX10_rest cX10_rest 4 (some .int) 1 := ⟨⟨ax_inT 5 39 (by decide +kernel), miX10, mcX10_rest, mdX10_rest, by decide⟩, mhX10_rest, meX10_rest⟩
theorem mcX11_rest : Cond.code yX11_rest cX11_rest 4 (some .int) ∈ lw_use := ax_inC 7 166 rfl
theorem mdX11_rest : (yX11_rest.cls ≠ "java/lang/invoke/MethodHandle" ∧ yX11_rest.cls ≠ "java/lang/invoke/VarHandle" ∧ (parseMethodDescriptor yX11_rest.desc).map (fun d => d.parameters.length) = some 1) := by decide +kernel
theorem mhX11_rest : Cond.instanceMethod yX11_rest ∈ lw_use := ax_inT 7 164 (by decide +kernel)
theorem meX11_rest : Cond.selects yX11_rest.cls yX11_rest yX11_rest ∈ lw_use := ax_inT 7 165 (by decide +kernel)
theorem mlL_156 : ax_mv RL 156 yX11_rest cX11_rest 4 (some .int) 1 := ⟨⟨ax_inT 7 163 (by decide +kernel), miX11, mcX11_rest, mdX11_rest, by decide⟩, mhX11_rest, meX11_rest⟩
theorem mcX10_lies : Cond.code yX10_lies cX10_lies 4 (some .long) ∈ lw_use := ax_inC 5 46 rfl
theorem mdX10_lies : (yX10_lies.cls ≠ "java/lang/invoke/MethodHandle" ∧ yX10_lies.cls ≠ "java/lang/invoke/VarHandle" ∧ (parseMethodDescriptor yX10_lies.desc).map (fun d => d.parameters.length) = some 2) := by decide +kernel
theorem mhX10_lies : Cond.instanceMethod yX10_lies ∈ lw_use := ax_inT 5 44 (by decide +kernel)
theorem meX10_lies : Cond.selects yX10_lies.cls yX10_lies yX10_lies ∈ lw_use := ax_inT 5 45 (by decide +kernel)
theorem mlL_157 : ax_mv RL 157 yX10_lies cX10_lies 4 (some .long) 2 := ⟨⟨ax_inT 5 43 (by decide +kernel), miX10, mcX10_lies, mdX10_lies, by decide⟩, mhX10_lies, meX10_lies⟩
theorem mcX11_lies : Cond.code yX11_lies cX11_lies 3 (some .long) ∈ lw_use := ax_inC 7 170 rfl
theorem mdX11_lies : (yX11_lies.cls ≠ "java/lang/invoke/MethodHandle" ∧ yX11_lies.cls ≠ "java/lang/invoke/VarHandle" ∧ (parseMethodDescriptor yX11_lies.desc).map (fun d => d.parameters.length) = some 2) := by decide +kernel
theorem mhX11_lies : Cond.instanceMethod yX11_lies ∈ lw_use := ax_inT 7 168 (by decide +kernel)
theorem meX11_lies : Cond.selects yX11_lies.cls yX11_lies yX11_lies ∈ lw_use := ax_inT 7 169 (by decide +kernel)
theorem mlL_161 : ax_mv RL 161 yX11_lies cX11_lies 3 (some .long) 2 := ⟨⟨ax_inT 7 167 (by decide +kernel), miX11, mcX11_lies, mdX11_lies, by decide⟩, mhX11_lies, meX11_lies⟩
theorem mcX10_taken : Cond.code yX10_taken cX10_taken 5 (some .int) ∈ lw_use := ax_inC 5 50 rfl
theorem mdX10_taken : (yX10_taken.cls ≠ "java/lang/invoke/MethodHandle" ∧ yX10_taken.cls ≠ "java/lang/invoke/VarHandle" ∧ (parseMethodDescriptor yX10_taken.desc).map (fun d => d.parameters.length) = some 2) := by decide +kernel
theorem mhX10_taken : Cond.instanceMethod yX10_taken ∈ lw_use := ax_inT 5 48 (by decide +kernel)
theorem meX10_taken : Cond.selects yX10_taken.cls yX10_taken yX10_taken ∈ lw_use := ax_inT 5 49 (by decide +kernel)
theorem mlL_162 : ax_mv RL 162 yX10_taken cX10_taken 5 (some .int) 2 := ⟨⟨ax_inT 5 47 (by decide +kernel), miX10, mcX10_taken, mdX10_taken, by decide⟩, mhX10_taken, meX10_taken⟩
theorem mcX11_taken : Cond.code yX11_taken cX11_taken 3 (some .int) ∈ lw_use := ax_inC 7 174 rfl
theorem mdX11_taken : (yX11_taken.cls ≠ "java/lang/invoke/MethodHandle" ∧ yX11_taken.cls ≠ "java/lang/invoke/VarHandle" ∧ (parseMethodDescriptor yX11_taken.desc).map (fun d => d.parameters.length) = some 2) := by decide +kernel
theorem mhX11_taken : Cond.instanceMethod yX11_taken ∈ lw_use := ax_inT 7 172 (by decide +kernel)
theorem meX11_taken : Cond.selects yX11_taken.cls yX11_taken yX11_taken ∈ lw_use := ax_inT 7 173 (by decide +kernel)
theorem mlL_165 : ax_mv RL 165 yX11_taken cX11_taken 3 (some .int) 2 := ⟨⟨ax_inT 7 171 (by decide +kernel), miX11, mcX11_taken, mdX11_taken, by decide⟩, mhX11_taken, meX11_taken⟩
theorem mcX10_many : Cond.code yX10_many cX10_many 2 (some .int) ∈ lw_use := ax_inC 5 54 rfl
theorem mdX10_many : (yX10_many.cls ≠ "java/lang/invoke/MethodHandle" ∧ yX10_many.cls ≠ "java/lang/invoke/VarHandle" ∧ (parseMethodDescriptor yX10_many.desc).map (fun d => d.parameters.length) = some 1) := by decide +kernel
theorem mhX10_many : Cond.instanceMethod yX10_many ∈ lw_use := ax_inT 5 52 (by decide +kernel)
theorem meX10_many : Cond.selects yX10_many.cls yX10_many yX10_many ∈ lw_use := ax_inT 5 53 (by decide +kernel)
theorem mlL_166 : ax_mv RL 166 yX10_many cX10_many 2 (some .int) 1 := ⟨⟨ax_inT 5 51 (by decide +kernel), miX10, mcX10_many, mdX10_many, by decide⟩, mhX10_many, meX10_many⟩
theorem mcX11_many : Cond.code yX11_many cX11_many 2 (some .int) ∈ lw_use := ax_inC 7 180 rfl
theorem mdX11_many : (yX11_many.cls ≠ "java/lang/invoke/MethodHandle" ∧ yX11_many.cls ≠ "java/lang/invoke/VarHandle" ∧ (parseMethodDescriptor yX11_many.desc).map (fun d => d.parameters.length) = some 1) := by decide +kernel
theorem mhX11_many : Cond.instanceMethod yX11_many ∈ lw_use := ax_inT 7 178 (by decide +kernel)
theorem meX11_many : Cond.selects yX11_many.cls yX11_many yX11_many ∈ lw_use := ax_inT 7 179 (by decide +kernel)
theorem mlL_169 : ax_mv RL 169 yX11_many cX11_many 2 (some .int) 1 := ⟨⟨ax_inT 7 177 (by decide +kernel), miX11, mcX11_many, mdX11_many, by decide⟩, mhX11_many, meX11_many⟩
theorem mcX10_keep : Cond.code yX10_keep cX10_keep 1 (some .int) ∈ lw_use := ax_inC 5 70 rfl
theorem mdX10_keep : (yX10_keep.cls ≠ "java/lang/invoke/MethodHandle" ∧ yX10_keep.cls ≠ "java/lang/invoke/VarHandle" ∧ (parseMethodDescriptor yX10_keep.desc).map (fun d => d.parameters.length) = some 0) := by decide +kernel
theorem mhX10_keep : Cond.instanceMethod yX10_keep ∈ lw_use := ax_inT 5 68 (by decide +kernel)
theorem meX10_keep : Cond.selects yX10_keep.cls yX10_keep yX10_keep ∈ lw_use := ax_inT 5 69 (by decide +kernel)
theorem mlL_170 : ax_mv RL 170 yX10_keep cX10_keep 1 (some .int) 0 := ⟨⟨ax_inT 5 67 (by decide +kernel), miX10, mcX10_keep, mdX10_keep, by decide⟩, mhX10_keep, meX10_keep⟩
theorem mcX11_keep : Cond.code yX11_keep cX11_keep 1 (some .int) ∈ lw_use := ax_inC 7 192 rfl
theorem mdX11_keep : (yX11_keep.cls ≠ "java/lang/invoke/MethodHandle" ∧ yX11_keep.cls ≠ "java/lang/invoke/VarHandle" ∧ (parseMethodDescriptor yX11_keep.desc).map (fun d => d.parameters.length) = some 0) := by decide +kernel
theorem mhX11_keep : Cond.instanceMethod yX11_keep ∈ lw_use := ax_inT 7 190 (by decide +kernel)
theorem meX11_keep : Cond.selects yX11_keep.cls yX11_keep yX11_keep ∈ lw_use := ax_inT 7 191 (by decide +kernel)
theorem mlL_173 : ax_mv RL 173 yX11_keep cX11_keep 1 (some .int) 0 := ⟨⟨ax_inT 7 189 (by decide +kernel), miX11, mcX11_keep, mdX11_keep, by decide⟩, mhX11_keep, meX11_keep⟩
theorem mcX10_again : Cond.code yX10_again cX10_again 1 (some .int) ∈ lw_use := ax_inC 5 75 rfl
theorem mdX10_again : (yX10_again.cls ≠ "java/lang/invoke/MethodHandle" ∧ yX10_again.cls ≠ "java/lang/invoke/VarHandle" ∧ (parseMethodDescriptor yX10_again.desc).map (fun d => d.parameters.length) = some 0) := by decide +kernel
theorem mhX10_again : Cond.instanceMethod yX10_again ∈ lw_use := ax_inT 5 73 (by decide +kernel)
theorem meX10_again : Cond.selects yX10_again.cls yX10_again yX10_again ∈ lw_use := ax_inT 5 74 (by decide +kernel)
theorem mlL_174 : ax_mv RL 174 yX10_again cX10_again 1 (some .int) 0 := ⟨⟨ax_inT 5 72 (by decide +kernel), miX10, mcX10_again, mdX10_again, by decide⟩, mhX10_again, meX10_again⟩
theorem mcX11_again : Cond.code yX11_again cX11_again 1 (some .int) ∈ lw_use := ax_inC 7 196 rfl
theorem mdX11_again : (yX11_again.cls ≠ "java/lang/invoke/MethodHandle" ∧ yX11_again.cls ≠ "java/lang/invoke/VarHandle" ∧ (parseMethodDescriptor yX11_again.desc).map (fun d => d.parameters.length) = some 0) := by decide +kernel
theorem mhX11_again : Cond.instanceMethod yX11_again ∈ lw_use := ax_inT 7 194 (by decide +kernel)
theorem meX11_again : Cond.selects yX11_again.cls yX11_again yX11_again ∈ lw_use := ax_inT 7 195 (by decide +kernel)
theorem mlL_177 : ax_mv RL 177 yX11_again cX11_again 1 (some .int) 0 := ⟨⟨ax_inT 7 193 (by decide +kernel), miX11, mcX11_again, mdX11_again, by decide⟩, mhX11_again, meX11_again⟩
theorem mcX11_saves : Cond.code yX11_saves cX11_saves 5 none ∈ lw_use := ax_inC 5 232 rfl
theorem mdX11_saves : (yX11_saves.cls ≠ "java/lang/invoke/MethodHandle" ∧ yX11_saves.cls ≠ "java/lang/invoke/VarHandle" ∧ (parseMethodDescriptor yX11_saves.desc).map (fun d => d.parameters.length) = some 4) := by decide +kernel
theorem msX11_saves : Cond.static yX11_saves ∈ lw_use := ax_inT 5 231 (by decide +kernel)
theorem mlX11_117 : ax_ms RX11 117 yX11_saves cX11_saves 5 none 4 := ⟨⟨ax_inT 5 230 (by decide +kernel), miX11, mcX11_saves, mdX11_saves, by decide⟩, msX11_saves⟩
theorem mcX11_in : Cond.code yX11_in cX11_in 6 (some .boolean) ∈ lw_use := ax_inC 6 3 rfl
theorem mdX11_in : (yX11_in.cls ≠ "java/lang/invoke/MethodHandle" ∧ yX11_in.cls ≠ "java/lang/invoke/VarHandle" ∧ (parseMethodDescriptor yX11_in.desc).map (fun d => d.parameters.length) = some 3) := by decide +kernel
theorem msX11_in : Cond.static yX11_in ∈ lw_use := ax_inT 6 2 (by decide +kernel)
theorem mlX11_123 : ax_ms RX11 123 yX11_in cX11_in 6 (some .boolean) 3 := ⟨⟨ax_inT 6 1 (by decide +kernel), miX11, mcX11_in, mdX11_in, by decide⟩, msX11_in⟩
theorem mcX11_sizeOf : Cond.code yX11_sizeOf cX11_sizeOf 2 (some .long) ∈ lw_use := ax_inC 6 50 rfl
theorem mdX11_sizeOf : (yX11_sizeOf.cls ≠ "java/lang/invoke/MethodHandle" ∧ yX11_sizeOf.cls ≠ "java/lang/invoke/VarHandle" ∧ (parseMethodDescriptor yX11_sizeOf.desc).map (fun d => d.parameters.length) = some 1) := by decide +kernel
theorem msX11_sizeOf : Cond.static yX11_sizeOf ∈ lw_use := ax_inT 6 49 (by decide +kernel)
theorem mlX11_136 : ax_ms RX11 136 yX11_sizeOf cX11_sizeOf 2 (some .long) 1 := ⟨⟨ax_inT 6 48 (by decide +kernel), miX11, mcX11_sizeOf, mdX11_sizeOf, by decide⟩, msX11_sizeOf⟩
theorem mcX11_leastAt : Cond.code yX11_leastAt cX11_leastAt 7 (some .int) ∈ lw_use := ax_inC 6 109 rfl
theorem mdX11_leastAt : (yX11_leastAt.cls ≠ "java/lang/invoke/MethodHandle" ∧ yX11_leastAt.cls ≠ "java/lang/invoke/VarHandle" ∧ (parseMethodDescriptor yX11_leastAt.desc).map (fun d => d.parameters.length) = some 2) := by decide +kernel
theorem mhX11_leastAt : Cond.instanceMethod yX11_leastAt ∈ lw_use := ax_inT 6 108 (by decide +kernel)
theorem meX11_leastAt : Cond.selects yX11_leastAt.cls yX11_leastAt yX11_leastAt ∈ lw_use := ax_inT 11 3 (by decide +kernel)
theorem mlX11_140 : ax_mv RX11 140 yX11_leastAt cX11_leastAt 7 (some .int) 2 := ⟨⟨ax_inT 6 106 (by decide +kernel), miX11, mcX11_leastAt, mdX11_leastAt, by decide⟩, mhX11_leastAt, meX11_leastAt⟩
theorem mcX11_swaps : Cond.code yX11_swaps cX11_swaps 6 none ∈ lw_use := ax_inC 6 113 rfl
theorem mdX11_swaps : (yX11_swaps.cls ≠ "java/lang/invoke/MethodHandle" ∧ yX11_swaps.cls ≠ "java/lang/invoke/VarHandle" ∧ (parseMethodDescriptor yX11_swaps.desc).map (fun d => d.parameters.length) = some 2) := by decide +kernel
theorem mhX11_swaps : Cond.instanceMethod yX11_swaps ∈ lw_use := ax_inT 6 112 (by decide +kernel)
theorem meX11_swaps : Cond.selects yX11_swaps.cls yX11_swaps yX11_swaps ∈ lw_use := ax_inT 11 4 (by decide +kernel)
theorem mlX11_144 : ax_mv RX11 144 yX11_swaps cX11_swaps 6 none 2 := ⟨⟨ax_inT 6 110 (by decide +kernel), miX11, mcX11_swaps, mdX11_swaps, by decide⟩, mhX11_swaps, meX11_swaps⟩
theorem mcX11_takesAway : Cond.code yX11_takesAway cX11_takesAway 8 none ∈ lw_use := ax_inC 6 117 rfl
theorem mdX11_takesAway : (yX11_takesAway.cls ≠ "java/lang/invoke/MethodHandle" ∧ yX11_takesAway.cls ≠ "java/lang/invoke/VarHandle" ∧ (parseMethodDescriptor yX11_takesAway.desc).map (fun d => d.parameters.length) = some 5) := by decide +kernel
theorem mhX11_takesAway : Cond.instanceMethod yX11_takesAway ∈ lw_use := ax_inT 6 116 (by decide +kernel)
theorem meX11_takesAway : Cond.selects yX11_takesAway.cls yX11_takesAway yX11_takesAway ∈ lw_use := ax_inT 11 5 (by decide +kernel)
theorem mlX11_148 : ax_mv RX11 148 yX11_takesAway cX11_takesAway 8 none 5 := ⟨⟨ax_inT 6 114 (by decide +kernel), miX11, mcX11_takesAway, mdX11_takesAway, by decide⟩, mhX11_takesAway, meX11_takesAway⟩
theorem mcX11_leadsAt : Cond.code yX11_leadsAt cX11_leadsAt 6 (some .boolean) ∈ lw_use := ax_inC 6 105 rfl
theorem mdX11_leadsAt : (yX11_leadsAt.cls ≠ "java/lang/invoke/MethodHandle" ∧ yX11_leadsAt.cls ≠ "java/lang/invoke/VarHandle" ∧ (parseMethodDescriptor yX11_leadsAt.desc).map (fun d => d.parameters.length) = some 2) := by decide +kernel
theorem mhX11_leadsAt : Cond.instanceMethod yX11_leadsAt ∈ lw_use := ax_inT 6 104 (by decide +kernel)
theorem meX11_leadsAt : Cond.selects yX11_leadsAt.cls yX11_leadsAt yX11_leadsAt ∈ lw_use := ax_inT 11 2 (by decide +kernel)
theorem mlX11_152 : ax_mv RX11 152 yX11_leadsAt cX11_leadsAt 6 (some .boolean) 2 := ⟨⟨ax_inT 6 102 (by decide +kernel), miX11, mcX11_leadsAt, mdX11_leadsAt, by decide⟩, mhX11_leadsAt, meX11_leadsAt⟩
theorem mcX11_floored : Cond.code yX11_floored cX11_floored 6 (some .long) ∈ lw_use := ax_inC 6 121 rfl
theorem mdX11_floored : (yX11_floored.cls ≠ "java/lang/invoke/MethodHandle" ∧ yX11_floored.cls ≠ "java/lang/invoke/VarHandle" ∧ (parseMethodDescriptor yX11_floored.desc).map (fun d => d.parameters.length) = some 2) := by decide +kernel
theorem msX11_floored : Cond.static yX11_floored ∈ lw_use := ax_inT 6 120 (by decide +kernel)
theorem mlX11_158 : ax_ms RX11 158 yX11_floored cX11_floored 6 (some .long) 2 := ⟨⟨ax_inT 6 119 (by decide +kernel), miX11, mcX11_floored, mdX11_floored, by decide⟩, msX11_floored⟩
theorem mcX11_size : Cond.code yX11_size cX11_size 2 (some .int) ∈ lw_use := ax_inC 6 12 rfl
theorem mdX11_size : (yX11_size.cls ≠ "java/lang/invoke/MethodHandle" ∧ yX11_size.cls ≠ "java/lang/invoke/VarHandle" ∧ (parseMethodDescriptor yX11_size.desc).map (fun d => d.parameters.length) = some 1) := by decide +kernel
theorem mhX11_size : Cond.instanceMethod yX11_size ∈ lw_use := ax_inT 6 11 (by decide +kernel)
theorem meX11_size : Cond.selects yX11_size.cls yX11_size yX11_size ∈ lw_use := ax_inT 10 1 (by decide +kernel)
theorem mlX11_162 : ax_mv RX11 162 yX11_size cX11_size 2 (some .int) 1 := ⟨⟨ax_inT 6 9 (by decide +kernel), miX11, mcX11_size, mdX11_size, by decide⟩, mhX11_size, meX11_size⟩
theorem mcX11_heaps : Cond.code yX11_heaps cX11_heaps 6 none ∈ lw_use := ax_inC 6 97 rfl
theorem mdX11_heaps : (yX11_heaps.cls ≠ "java/lang/invoke/MethodHandle" ∧ yX11_heaps.cls ≠ "java/lang/invoke/VarHandle" ∧ (parseMethodDescriptor yX11_heaps.desc).map (fun d => d.parameters.length) = some 4) := by decide +kernel
theorem mhX11_heaps : Cond.instanceMethod yX11_heaps ∈ lw_use := ax_inT 6 96 (by decide +kernel)
theorem meX11_heaps : Cond.selects yX11_heaps.cls yX11_heaps yX11_heaps ∈ lw_use := ax_inT 11 0 (by decide +kernel)
theorem mlX11_166 : ax_mv RX11 166 yX11_heaps cX11_heaps 6 none 4 := ⟨⟨ax_inT 6 94 (by decide +kernel), miX11, mcX11_heaps, mdX11_heaps, by decide⟩, mhX11_heaps, meX11_heaps⟩
theorem mcX11_works : Cond.code yX11_works cX11_works 8 none ∈ lw_use := ax_inC 6 101 rfl
theorem mdX11_works : (yX11_works.cls ≠ "java/lang/invoke/MethodHandle" ∧ yX11_works.cls ≠ "java/lang/invoke/VarHandle" ∧ (parseMethodDescriptor yX11_works.desc).map (fun d => d.parameters.length) = some 2) := by decide +kernel
theorem mhX11_works : Cond.instanceMethod yX11_works ∈ lw_use := ax_inT 6 100 (by decide +kernel)
theorem meX11_works : Cond.selects yX11_works.cls yX11_works yX11_works ∈ lw_use := ax_inT 11 1 (by decide +kernel)
theorem mlX11_170 : ax_mv RX11 170 yX11_works cX11_works 8 none 2 := ⟨⟨ax_inT 6 98 (by decide +kernel), miX11, mcX11_works, mdX11_works, by decide⟩, mhX11_works, meX11_works⟩
theorem mcX11_fromOf : Cond.code yX11_fromOf cX11_fromOf 2 (some .int) ∈ lw_use := ax_inC 6 21 rfl
theorem mdX11_fromOf : (yX11_fromOf.cls ≠ "java/lang/invoke/MethodHandle" ∧ yX11_fromOf.cls ≠ "java/lang/invoke/VarHandle" ∧ (parseMethodDescriptor yX11_fromOf.desc).map (fun d => d.parameters.length) = some 1) := by decide +kernel
theorem mhX11_fromOf : Cond.instanceMethod yX11_fromOf ∈ lw_use := ax_inT 6 20 (by decide +kernel)
theorem meX11_fromOf : Cond.selects yX11_fromOf.cls yX11_fromOf yX11_fromOf ∈ lw_use := ax_inT 10 3 (by decide +kernel)
theorem mlX11_174 : ax_mv RX11 174 yX11_fromOf cX11_fromOf 2 (some .int) 1 := ⟨⟨ax_inT 6 18 (by decide +kernel), miX11, mcX11_fromOf, mdX11_fromOf, by decide⟩, mhX11_fromOf, meX11_fromOf⟩
theorem mcX11_table : Cond.code yX11_table cX11_table 4 (some .int) ∈ lw_use := ax_inC 6 194 rfl
theorem mdX11_table : (yX11_table.cls ≠ "java/lang/invoke/MethodHandle" ∧ yX11_table.cls ≠ "java/lang/invoke/VarHandle" ∧ (parseMethodDescriptor yX11_table.desc).map (fun d => d.parameters.length) = some 3) := by decide +kernel
theorem mhX11_table : Cond.instanceMethod yX11_table ∈ lw_use := ax_inT 6 193 (by decide +kernel)
theorem meX11_table : Cond.selects yX11_table.cls yX11_table yX11_table ∈ lw_use := ax_inT 11 11 (by decide +kernel)
theorem mlX11_177 : ax_mv RX11 177 yX11_table cX11_table 4 (some .int) 3 := ⟨⟨ax_inT 6 191 (by decide +kernel), miX11, mcX11_table, mdX11_table, by decide⟩, mhX11_table, meX11_table⟩
theorem mcX11_toOf : Cond.code yX11_toOf cX11_toOf 2 (some .int) ∈ lw_use := ax_inC 6 25 rfl
theorem mdX11_toOf : (yX11_toOf.cls ≠ "java/lang/invoke/MethodHandle" ∧ yX11_toOf.cls ≠ "java/lang/invoke/VarHandle" ∧ (parseMethodDescriptor yX11_toOf.desc).map (fun d => d.parameters.length) = some 1) := by decide +kernel
theorem mhX11_toOf : Cond.instanceMethod yX11_toOf ∈ lw_use := ax_inT 6 24 (by decide +kernel)
theorem meX11_toOf : Cond.selects yX11_toOf.cls yX11_toOf yX11_toOf ∈ lw_use := ax_inT 10 4 (by decide +kernel)
theorem mlX11_181 : ax_mv RX11 181 yX11_toOf cX11_toOf 2 (some .int) 1 := ⟨⟨ax_inT 6 22 (by decide +kernel), miX11, mcX11_toOf, mdX11_toOf, by decide⟩, mhX11_toOf, meX11_toOf⟩
theorem mcX11_sets : Cond.code yX11_sets cX11_sets 10 none ∈ lw_use := ax_inC 6 138 rfl
theorem mdX11_sets : (yX11_sets.cls ≠ "java/lang/invoke/MethodHandle" ∧ yX11_sets.cls ≠ "java/lang/invoke/VarHandle" ∧ (parseMethodDescriptor yX11_sets.desc).map (fun d => d.parameters.length) = some 5) := by decide +kernel
theorem mhX11_sets : Cond.instanceMethod yX11_sets ∈ lw_use := ax_inT 6 137 (by decide +kernel)
theorem meX11_sets : Cond.selects yX11_sets.cls yX11_sets yX11_sets ∈ lw_use := ax_inT 11 6 (by decide +kernel)
theorem mlX11_184 : ax_mv RX11 184 yX11_sets cX11_sets 10 none 5 := ⟨⟨ax_inT 6 135 (by decide +kernel), miX11, mcX11_sets, mdX11_sets, by decide⟩, mhX11_sets, meX11_sets⟩
theorem mcX11_nothingOf : Cond.code yX11_nothingOf cX11_nothingOf 5 none ∈ lw_use := ax_inC 6 93 rfl
theorem mdX11_nothingOf : (yX11_nothingOf.cls ≠ "java/lang/invoke/MethodHandle" ∧ yX11_nothingOf.cls ≠ "java/lang/invoke/VarHandle" ∧ (parseMethodDescriptor yX11_nothingOf.desc).map (fun d => d.parameters.length) = some 2) := by decide +kernel
theorem mhX11_nothingOf : Cond.instanceMethod yX11_nothingOf ∈ lw_use := ax_inT 6 92 (by decide +kernel)
theorem meX11_nothingOf : Cond.selects yX11_nothingOf.cls yX11_nothingOf yX11_nothingOf ∈ lw_use := ax_inT 10 15 (by decide +kernel)
theorem mlX11_188 : ax_mv RX11 188 yX11_nothingOf cX11_nothingOf 5 none 2 := ⟨⟨ax_inT 6 90 (by decide +kernel), miX11, mcX11_nothingOf, mdX11_nothingOf, by decide⟩, mhX11_nothingOf, meX11_nothingOf⟩
theorem mcX11_images : Cond.code yX11_images cX11_images 11 none ∈ lw_use := ax_inC 6 210 rfl
theorem mdX11_images : (yX11_images.cls ≠ "java/lang/invoke/MethodHandle" ∧ yX11_images.cls ≠ "java/lang/invoke/VarHandle" ∧ (parseMethodDescriptor yX11_images.desc).map (fun d => d.parameters.length) = some 3) := by decide +kernel
theorem mhX11_images : Cond.instanceMethod yX11_images ∈ lw_use := ax_inT 6 209 (by decide +kernel)
theorem meX11_images : Cond.selects yX11_images.cls yX11_images yX11_images ∈ lw_use := ax_inT 11 13 (by decide +kernel)
theorem mlX11_191 : ax_mv RX11 191 yX11_images cX11_images 11 none 3 := ⟨⟨ax_inT 6 207 (by decide +kernel), miX11, mcX11_images, mdX11_images, by decide⟩, mhX11_images, meX11_images⟩
theorem mcX11_rests : Cond.code yX11_rests cX11_rests 8 none ∈ lw_use := ax_inC 6 141 rfl
theorem mdX11_rests : (yX11_rests.cls ≠ "java/lang/invoke/MethodHandle" ∧ yX11_rests.cls ≠ "java/lang/invoke/VarHandle" ∧ (parseMethodDescriptor yX11_rests.desc).map (fun d => d.parameters.length) = some 4) := by decide +kernel
theorem msX11_rests : Cond.static yX11_rests ∈ lw_use := ax_inT 6 140 (by decide +kernel)
theorem mlX11_195 : ax_ms RX11 195 yX11_rests cX11_rests 8 none 4 := ⟨⟨ax_inT 6 139 (by decide +kernel), miX11, mcX11_rests, mdX11_rests, by decide⟩, msX11_rests⟩
theorem mcX11_isNothing : Cond.code yX11_isNothing cX11_isNothing 5 (some .boolean) ∈ lw_use := ax_inC 6 213 rfl
theorem mdX11_isNothing : (yX11_isNothing.cls ≠ "java/lang/invoke/MethodHandle" ∧ yX11_isNothing.cls ≠ "java/lang/invoke/VarHandle" ∧ (parseMethodDescriptor yX11_isNothing.desc).map (fun d => d.parameters.length) = some 3) := by decide +kernel
theorem msX11_isNothing : Cond.static yX11_isNothing ∈ lw_use := ax_inT 6 212 (by decide +kernel)
theorem mlX11_199 : ax_ms RX11 199 yX11_isNothing cX11_isNothing 5 (some .boolean) 3 := ⟨⟨ax_inT 6 211 (by decide +kernel), miX11, mcX11_isNothing, mdX11_isNothing, by decide⟩, msX11_isNothing⟩
theorem mcX11_againLeads : Cond.code yX11_againLeads cX11_againLeads 3 none ∈ lw_use := ax_inC 6 221 rfl
theorem mdX11_againLeads : (yX11_againLeads.cls ≠ "java/lang/invoke/MethodHandle" ∧ yX11_againLeads.cls ≠ "java/lang/invoke/VarHandle" ∧ (parseMethodDescriptor yX11_againLeads.desc).map (fun d => d.parameters.length) = some 1) := by decide +kernel
theorem mhX11_againLeads : Cond.instanceMethod yX11_againLeads ∈ lw_use := ax_inT 6 220 (by decide +kernel)
theorem meX11_againLeads : Cond.selects yX11_againLeads.cls yX11_againLeads yX11_againLeads ∈ lw_use := ax_inT 11 15 (by decide +kernel)
theorem mlX11_203 : ax_mv RX11 203 yX11_againLeads cX11_againLeads 3 none 1 := ⟨⟨ax_inT 6 218 (by decide +kernel), miX11, mcX11_againLeads, mdX11_againLeads, by decide⟩, mhX11_againLeads, meX11_againLeads⟩
theorem mcX11_isGroup : Cond.code yX11_isGroup cX11_isGroup 1 (some .boolean) ∈ lw_use := ax_inC 5 239 rfl
theorem mdX11_isGroup : (yX11_isGroup.cls ≠ "java/lang/invoke/MethodHandle" ∧ yX11_isGroup.cls ≠ "java/lang/invoke/VarHandle" ∧ (parseMethodDescriptor yX11_isGroup.desc).map (fun d => d.parameters.length) = some 1) := by decide +kernel
theorem msX11_isGroup : Cond.static yX11_isGroup ∈ lw_use := ax_inT 5 238 (by decide +kernel)
theorem mlX11_207 : ax_ms RX11 207 yX11_isGroup cX11_isGroup 1 (some .boolean) 1 := ⟨⟨ax_inT 5 237 (by decide +kernel), miX11, mcX11_isGroup, mdX11_isGroup, by decide⟩, msX11_isGroup⟩
theorem mcX11_changes : Cond.code yX11_changes cX11_changes 2 none ∈ lw_use := ax_inC 6 8 rfl
theorem mdX11_changes : (yX11_changes.cls ≠ "java/lang/invoke/MethodHandle" ∧ yX11_changes.cls ≠ "java/lang/invoke/VarHandle" ∧ (parseMethodDescriptor yX11_changes.desc).map (fun d => d.parameters.length) = some 0) := by decide +kernel
theorem mhX11_changes : Cond.instanceMethod yX11_changes ∈ lw_use := ax_inT 6 7 (by decide +kernel)
theorem meX11_changes : Cond.selects yX11_changes.cls yX11_changes yX11_changes ∈ lw_use := ax_inT 10 0 (by decide +kernel)
theorem mlX11_213 : ax_mv RX11 213 yX11_changes cX11_changes 2 none 0 := ⟨⟨ax_inT 6 5 (by decide +kernel), miX11, mcX11_changes, mdX11_changes, by decide⟩, mhX11_changes, meX11_changes⟩
theorem mcX11_isMap : Cond.code yX11_isMap cX11_isMap 2 (some .boolean) ∈ lw_use := ax_inC 6 16 rfl
theorem mdX11_isMap : (yX11_isMap.cls ≠ "java/lang/invoke/MethodHandle" ∧ yX11_isMap.cls ≠ "java/lang/invoke/VarHandle" ∧ (parseMethodDescriptor yX11_isMap.desc).map (fun d => d.parameters.length) = some 1) := by decide +kernel
theorem mhX11_isMap : Cond.instanceMethod yX11_isMap ∈ lw_use := ax_inT 6 15 (by decide +kernel)
theorem meX11_isMap : Cond.selects yX11_isMap.cls yX11_isMap yX11_isMap ∈ lw_use := ax_inT 10 2 (by decide +kernel)
theorem mlX11_215 : ax_mv RX11 215 yX11_isMap cX11_isMap 2 (some .boolean) 1 := ⟨⟨ax_inT 6 13 (by decide +kernel), miX11, mcX11_isMap, mdX11_isMap, by decide⟩, mhX11_isMap, meX11_isMap⟩
theorem mcX11_changesPlaces : Cond.code yX11_changesPlaces cX11_changesPlaces 9 none ∈ lw_use := ax_inC 6 54 rfl
theorem mdX11_changesPlaces : (yX11_changesPlaces.cls ≠ "java/lang/invoke/MethodHandle" ∧ yX11_changesPlaces.cls ≠ "java/lang/invoke/VarHandle" ∧ (parseMethodDescriptor yX11_changesPlaces.desc).map (fun d => d.parameters.length) = some 3) := by decide +kernel
theorem mhX11_changesPlaces : Cond.instanceMethod yX11_changesPlaces ∈ lw_use := ax_inT 6 53 (by decide +kernel)
theorem meX11_changesPlaces : Cond.selects yX11_changesPlaces.cls yX11_changesPlaces yX11_changesPlaces ∈ lw_use := ax_inT 10 8 (by decide +kernel)
theorem mlX11_228 : ax_mv RX11 228 yX11_changesPlaces cX11_changesPlaces 9 none 3 := ⟨⟨ax_inT 6 51 (by decide +kernel), miX11, mcX11_changesPlaces, mdX11_changesPlaces, by decide⟩, mhX11_changesPlaces, meX11_changesPlaces⟩
theorem mcX11_adds : Cond.code yX11_adds cX11_adds 7 none ∈ lw_use := ax_inC 6 62 rfl
theorem mdX11_adds : (yX11_adds.cls ≠ "java/lang/invoke/MethodHandle" ∧ yX11_adds.cls ≠ "java/lang/invoke/VarHandle" ∧ (parseMethodDescriptor yX11_adds.desc).map (fun d => d.parameters.length) = some 4) := by decide +kernel
theorem mhX11_adds : Cond.instanceMethod yX11_adds ∈ lw_use := ax_inT 6 61 (by decide +kernel)
theorem meX11_adds : Cond.selects yX11_adds.cls yX11_adds yX11_adds ∈ lw_use := ax_inT 10 10 (by decide +kernel)
theorem mlX11_232 : ax_mv RX11 232 yX11_adds cX11_adds 7 none 4 := ⟨⟨ax_inT 6 59 (by decide +kernel), miX11, mcX11_adds, mdX11_adds, by decide⟩, mhX11_adds, meX11_adds⟩
theorem mcX11_brings : Cond.code yX11_brings cX11_brings 5 (some .boolean) ∈ lw_use := ax_inC 6 47 rfl
theorem mdX11_brings : (yX11_brings.cls ≠ "java/lang/invoke/MethodHandle" ∧ yX11_brings.cls ≠ "java/lang/invoke/VarHandle" ∧ (parseMethodDescriptor yX11_brings.desc).map (fun d => d.parameters.length) = some 1) := by decide +kernel
theorem mhX11_brings : Cond.instanceMethod yX11_brings ∈ lw_use := ax_inT 6 46 (by decide +kernel)
theorem meX11_brings : Cond.selects yX11_brings.cls yX11_brings yX11_brings ∈ lw_use := ax_inT 10 7 (by decide +kernel)
theorem mlX11_239 : ax_mv RX11 239 yX11_brings cX11_brings 5 (some .boolean) 1 := ⟨⟨ax_inT 6 44 (by decide +kernel), miX11, mcX11_brings, mdX11_brings, by decide⟩, mhX11_brings, meX11_brings⟩
theorem mcX11_clears : Cond.code yX11_clears cX11_clears 4 (some .boolean) ∈ lw_use := ax_inC 6 58 rfl
theorem mdX11_clears : (yX11_clears.cls ≠ "java/lang/invoke/MethodHandle" ∧ yX11_clears.cls ≠ "java/lang/invoke/VarHandle" ∧ (parseMethodDescriptor yX11_clears.desc).map (fun d => d.parameters.length) = some 1) := by decide +kernel
theorem mhX11_clears : Cond.instanceMethod yX11_clears ∈ lw_use := ax_inT 6 57 (by decide +kernel)
theorem meX11_clears : Cond.selects yX11_clears.cls yX11_clears yX11_clears ∈ lw_use := ax_inT 10 9 (by decide +kernel)
theorem mlX11_242 : ax_mv RX11 242 yX11_clears cX11_clears 4 (some .boolean) 1 := ⟨⟨ax_inT 6 55 (by decide +kernel), miX11, mcX11_clears, mdX11_clears, by decide⟩, mhX11_clears, meX11_clears⟩
theorem mcX11_ordersRings : Cond.code yX11_ordersRings cX11_ordersRings 7 none ∈ lw_use := ax_inC 6 66 rfl
theorem mdX11_ordersRings : (yX11_ordersRings.cls ≠ "java/lang/invoke/MethodHandle" ∧ yX11_ordersRings.cls ≠ "java/lang/invoke/VarHandle" ∧ (parseMethodDescriptor yX11_ordersRings.desc).map (fun d => d.parameters.length) = some 0) := by decide +kernel
theorem mhX11_ordersRings : Cond.instanceMethod yX11_ordersRings ∈ lw_use := ax_inT 6 65 (by decide +kernel)
theorem meX11_ordersRings : Cond.selects yX11_ordersRings.cls yX11_ordersRings yX11_ordersRings ∈ lw_use := ax_inT 10 11 (by decide +kernel)
theorem mlX11_245 : ax_mv RX11 245 yX11_ordersRings cX11_ordersRings 7 none 0 := ⟨⟨ax_inT 6 63 (by decide +kernel), miX11, mcX11_ordersRings, mdX11_ordersRings, by decide⟩, mhX11_ordersRings, meX11_ordersRings⟩
theorem mcX11_common : Cond.code yX11_common cX11_common 10 (some .long) ∈ lw_use := ax_inC 6 69 rfl
theorem mdX11_common : (yX11_common.cls ≠ "java/lang/invoke/MethodHandle" ∧ yX11_common.cls ≠ "java/lang/invoke/VarHandle" ∧ (parseMethodDescriptor yX11_common.desc).map (fun d => d.parameters.length) = some 2) := by decide +kernel
theorem msX11_common : Cond.static yX11_common ∈ lw_use := ax_inT 6 68 (by decide +kernel)
theorem mlX11_248 : ax_ms RX11 248 yX11_common cX11_common 10 (some .long) 2 := ⟨⟨ax_inT 6 67 (by decide +kernel), miX11, mcX11_common, mdX11_common, by decide⟩, msX11_common⟩
theorem mcX11_ringsOfGrid : Cond.code yX11_ringsOfGrid cX11_ringsOfGrid 2 none ∈ lw_use := ax_inC 6 43 rfl
theorem mdX11_ringsOfGrid : (yX11_ringsOfGrid.cls ≠ "java/lang/invoke/MethodHandle" ∧ yX11_ringsOfGrid.cls ≠ "java/lang/invoke/VarHandle" ∧ (parseMethodDescriptor yX11_ringsOfGrid.desc).map (fun d => d.parameters.length) = some 0) := by decide +kernel
theorem mhX11_ringsOfGrid : Cond.instanceMethod yX11_ringsOfGrid ∈ lw_use := ax_inT 6 42 (by decide +kernel)
theorem meX11_ringsOfGrid : Cond.selects yX11_ringsOfGrid.cls yX11_ringsOfGrid yX11_ringsOfGrid ∈ lw_use := ax_inT 10 6 (by decide +kernel)
theorem mlX11_251 : ax_mv RX11 251 yX11_ringsOfGrid cX11_ringsOfGrid 2 none 0 := ⟨⟨ax_inT 6 40 (by decide +kernel), miX11, mcX11_ringsOfGrid, mdX11_ringsOfGrid, by decide⟩, mhX11_ringsOfGrid, meX11_ringsOfGrid⟩
theorem mcX11_ownRings : Cond.code yX11_ownRings cX11_ownRings 3 (some .int) ∈ lw_use := ax_inC 6 73 rfl
theorem mdX11_ownRings : (yX11_ownRings.cls ≠ "java/lang/invoke/MethodHandle" ∧ yX11_ownRings.cls ≠ "java/lang/invoke/VarHandle" ∧ (parseMethodDescriptor yX11_ownRings.desc).map (fun d => d.parameters.length) = some 0) := by decide +kernel
theorem mhX11_ownRings : Cond.instanceMethod yX11_ownRings ∈ lw_use := ax_inT 6 72 (by decide +kernel)
theorem meX11_ownRings : Cond.selects yX11_ownRings.cls yX11_ownRings yX11_ownRings ∈ lw_use := ax_inT 10 12 (by decide +kernel)
theorem mlX11_254 : ax_mv RX11 254 yX11_ownRings cX11_ownRings 3 (some .int) 0 := ⟨⟨ax_inT 6 70 (by decide +kernel), miX11, mcX11_ownRings, mdX11_ownRings, by decide⟩, mhX11_ownRings, meX11_ownRings⟩
theorem mcX11_ringsOf : Cond.code yX11_ringsOf cX11_ringsOf 4 none ∈ lw_use := ax_inC 6 39 rfl
theorem mdX11_ringsOf : (yX11_ringsOf.cls ≠ "java/lang/invoke/MethodHandle" ∧ yX11_ringsOf.cls ≠ "java/lang/invoke/VarHandle" ∧ (parseMethodDescriptor yX11_ringsOf.desc).map (fun d => d.parameters.length) = some 1) := by decide +kernel
theorem mhX11_ringsOf : Cond.instanceMethod yX11_ringsOf ∈ lw_use := ax_inT 6 38 (by decide +kernel)
theorem meX11_ringsOf : Cond.selects yX11_ringsOf.cls yX11_ringsOf yX11_ringsOf ∈ lw_use := ax_inT 10 5 (by decide +kernel)
theorem mlX11_258 : ax_mv RX11 258 yX11_ringsOf cX11_ringsOf 4 none 1 := ⟨⟨ax_inT 6 36 (by decide +kernel), miX11, mcX11_ringsOf, mdX11_ringsOf, by decide⟩, mhX11_ringsOf, meX11_ringsOf⟩
theorem mcX11_elements : Cond.code yX11_elements cX11_elements 4 (some .int) ∈ lw_use := ax_inC 6 77 rfl
theorem mdX11_elements : (yX11_elements.cls ≠ "java/lang/invoke/MethodHandle" ∧ yX11_elements.cls ≠ "java/lang/invoke/VarHandle" ∧ (parseMethodDescriptor yX11_elements.desc).map (fun d => d.parameters.length) = some 0) := by decide +kernel
theorem mhX11_elements : Cond.instanceMethod yX11_elements ∈ lw_use := ax_inT 6 76 (by decide +kernel)
theorem meX11_elements : Cond.selects yX11_elements.cls yX11_elements yX11_elements ∈ lw_use := ax_inT 10 13 (by decide +kernel)
theorem mlX11_261 : ax_mv RX11 261 yX11_elements cX11_elements 4 (some .int) 0 := ⟨⟨ax_inT 6 74 (by decide +kernel), miX11, mcX11_elements, mdX11_elements, by decide⟩, mhX11_elements, meX11_elements⟩
theorem mcX11_isPlace : Cond.code yX11_isPlace cX11_isPlace 3 (some .boolean) ∈ lw_use := ax_inC 6 85 rfl
theorem mdX11_isPlace : (yX11_isPlace.cls ≠ "java/lang/invoke/MethodHandle" ∧ yX11_isPlace.cls ≠ "java/lang/invoke/VarHandle" ∧ (parseMethodDescriptor yX11_isPlace.desc).map (fun d => d.parameters.length) = some 2) := by decide +kernel
theorem mhX11_isPlace : Cond.instanceMethod yX11_isPlace ∈ lw_use := ax_inT 6 84 (by decide +kernel)
theorem meX11_isPlace : Cond.selects yX11_isPlace.cls yX11_isPlace yX11_isPlace ∈ lw_use := ax_inT 10 14 (by decide +kernel)
theorem mlX11_264 : ax_mv RX11 264 yX11_isPlace cX11_isPlace 3 (some .boolean) 2 := ⟨⟨ax_inT 6 82 (by decide +kernel), miX11, mcX11_isPlace, mdX11_isPlace, by decide⟩, mhX11_isPlace, meX11_isPlace⟩
theorem mcX11_areNumbers : Cond.code yX11_areNumbers cX11_areNumbers 3 (some .boolean) ∈ lw_use := ax_inC 6 128 rfl
theorem mdX11_areNumbers : (yX11_areNumbers.cls ≠ "java/lang/invoke/MethodHandle" ∧ yX11_areNumbers.cls ≠ "java/lang/invoke/VarHandle" ∧ (parseMethodDescriptor yX11_areNumbers.desc).map (fun d => d.parameters.length) = some 3) := by decide +kernel
theorem msX11_areNumbers : Cond.static yX11_areNumbers ∈ lw_use := ax_inT 6 127 (by decide +kernel)
theorem mlX11_267 : ax_ms RX11 267 yX11_areNumbers cX11_areNumbers 3 (some .boolean) 3 := ⟨⟨ax_inT 6 126 (by decide +kernel), miX11, mcX11_areNumbers, mdX11_areNumbers, by decide⟩, msX11_areNumbers⟩
theorem mcX11_told : Cond.code yX11_told cX11_told 1 (some .long) ∈ lw_use := ax_inC 6 133 rfl
theorem mdX11_told : (yX11_told.cls ≠ "java/lang/invoke/MethodHandle" ∧ yX11_told.cls ≠ "java/lang/invoke/VarHandle" ∧ (parseMethodDescriptor yX11_told.desc).map (fun d => d.parameters.length) = some 1) := by decide +kernel
theorem msX11_told : Cond.static yX11_told ∈ lw_use := ax_inT 6 132 (by decide +kernel)
theorem mlX11_271 : ax_ms RX11 271 yX11_told cX11_told 1 (some .long) 1 := ⟨⟨ax_inT 6 131 (by decide +kernel), miX11, mcX11_told, mdX11_told, by decide⟩, msX11_told⟩
theorem mcX11_keepsRings : Cond.code yX11_keepsRings cX11_keepsRings 3 none ∈ lw_use := ax_inC 6 153 rfl
theorem mdX11_keepsRings : (yX11_keepsRings.cls ≠ "java/lang/invoke/MethodHandle" ∧ yX11_keepsRings.cls ≠ "java/lang/invoke/VarHandle" ∧ (parseMethodDescriptor yX11_keepsRings.desc).map (fun d => d.parameters.length) = some 1) := by decide +kernel
theorem mhX11_keepsRings : Cond.instanceMethod yX11_keepsRings ∈ lw_use := ax_inT 6 152 (by decide +kernel)
theorem meX11_keepsRings : Cond.selects yX11_keepsRings.cls yX11_keepsRings yX11_keepsRings ∈ lw_use := ax_inT 11 7 (by decide +kernel)
theorem mlX11_278 : ax_mv RX11 278 yX11_keepsRings cX11_keepsRings 3 none 1 := ⟨⟨ax_inT 6 150 (by decide +kernel), miX11, mcX11_keepsRings, mdX11_keepsRings, by decide⟩, mhX11_keepsRings, meX11_keepsRings⟩
theorem mcX11_pair : Cond.code yX11_pair cX11_pair 6 (some .long) ∈ lw_use := ax_inC 6 165 rfl
theorem mdX11_pair : (yX11_pair.cls ≠ "java/lang/invoke/MethodHandle" ∧ yX11_pair.cls ≠ "java/lang/invoke/VarHandle" ∧ (parseMethodDescriptor yX11_pair.desc).map (fun d => d.parameters.length) = some 3) := by decide +kernel
theorem msX11_pair : Cond.static yX11_pair ∈ lw_use := ax_inT 6 164 (by decide +kernel)
theorem mlX11_281 : ax_ms RX11 281 yX11_pair cX11_pair 6 (some .long) 3 := ⟨⟨ax_inT 6 163 (by decide +kernel), miX11, mcX11_pair, mdX11_pair, by decide⟩, msX11_pair⟩
theorem mcX11_pairsOf : Cond.code yX11_pairsOf cX11_pairsOf 4 none ∈ lw_use := ax_inC 6 162 rfl
theorem mdX11_pairsOf : (yX11_pairsOf.cls ≠ "java/lang/invoke/MethodHandle" ∧ yX11_pairsOf.cls ≠ "java/lang/invoke/VarHandle" ∧ (parseMethodDescriptor yX11_pairsOf.desc).map (fun d => d.parameters.length) = some 1) := by decide +kernel
theorem mhX11_pairsOf : Cond.instanceMethod yX11_pairsOf ∈ lw_use := ax_inT 6 161 (by decide +kernel)
theorem meX11_pairsOf : Cond.selects yX11_pairsOf.cls yX11_pairsOf yX11_pairsOf ∈ lw_use := ax_inT 11 8 (by decide +kernel)
theorem mlX11_287 : ax_mv RX11 287 yX11_pairsOf cX11_pairsOf 4 none 1 := ⟨⟨ax_inT 6 159 (by decide +kernel), miX11, mcX11_pairsOf, mdX11_pairsOf, by decide⟩, mhX11_pairsOf, meX11_pairsOf⟩
theorem mcX11_ownRing : Cond.code yX11_ownRing cX11_ownRing 4 (some .int) ∈ lw_use := ax_inC 6 169 rfl
theorem mdX11_ownRing : (yX11_ownRing.cls ≠ "java/lang/invoke/MethodHandle" ∧ yX11_ownRing.cls ≠ "java/lang/invoke/VarHandle" ∧ (parseMethodDescriptor yX11_ownRing.desc).map (fun d => d.parameters.length) = some 1) := by decide +kernel
theorem mhX11_ownRing : Cond.instanceMethod yX11_ownRing ∈ lw_use := ax_inT 6 168 (by decide +kernel)
theorem meX11_ownRing : Cond.selects yX11_ownRing.cls yX11_ownRing yX11_ownRing ∈ lw_use := ax_inT 11 9 (by decide +kernel)
theorem mlX11_290 : ax_mv RX11 290 yX11_ownRing cX11_ownRing 4 (some .int) 1 := ⟨⟨ax_inT 6 166 (by decide +kernel), miX11, mcX11_ownRing, mdX11_ownRing, by decide⟩, mhX11_ownRing, meX11_ownRing⟩
theorem mcX11_isSheet : Cond.code yX11_isSheet cX11_isSheet 1 (some .boolean) ∈ lw_use := ax_inC 6 176 rfl
theorem mdX11_isSheet : (yX11_isSheet.cls ≠ "java/lang/invoke/MethodHandle" ∧ yX11_isSheet.cls ≠ "java/lang/invoke/VarHandle" ∧ (parseMethodDescriptor yX11_isSheet.desc).map (fun d => d.parameters.length) = some 1) := by decide +kernel
theorem msX11_isSheet : Cond.static yX11_isSheet ∈ lw_use := ax_inT 6 175 (by decide +kernel)
theorem mlX11_293 : ax_ms RX11 293 yX11_isSheet cX11_isSheet 1 (some .boolean) 1 := ⟨⟨ax_inT 6 174 (by decide +kernel), miX11, mcX11_isSheet, mdX11_isSheet, by decide⟩, msX11_isSheet⟩
theorem mcX11_isEntry : Cond.code yX11_isEntry cX11_isEntry 4 (some .boolean) ∈ lw_use := ax_inC 6 190 rfl
theorem mdX11_isEntry : (yX11_isEntry.cls ≠ "java/lang/invoke/MethodHandle" ∧ yX11_isEntry.cls ≠ "java/lang/invoke/VarHandle" ∧ (parseMethodDescriptor yX11_isEntry.desc).map (fun d => d.parameters.length) = some 3) := by decide +kernel
theorem mhX11_isEntry : Cond.instanceMethod yX11_isEntry ∈ lw_use := ax_inT 6 189 (by decide +kernel)
theorem meX11_isEntry : Cond.selects yX11_isEntry.cls yX11_isEntry yX11_isEntry ∈ lw_use := ax_inT 11 10 (by decide +kernel)
theorem mlX11_300 : ax_mv RX11 300 yX11_isEntry cX11_isEntry 4 (some .boolean) 3 := ⟨⟨ax_inT 6 187 (by decide +kernel), miX11, mcX11_isEntry, mdX11_isEntry, by decide⟩, mhX11_isEntry, meX11_isEntry⟩
theorem mcX11_areAlike : Cond.code yX11_areAlike cX11_areAlike 4 (some .boolean) ∈ lw_use := ax_inC 6 228 rfl
theorem mdX11_areAlike : (yX11_areAlike.cls ≠ "java/lang/invoke/MethodHandle" ∧ yX11_areAlike.cls ≠ "java/lang/invoke/VarHandle" ∧ (parseMethodDescriptor yX11_areAlike.desc).map (fun d => d.parameters.length) = some 2) := by decide +kernel
theorem msX11_areAlike : Cond.static yX11_areAlike ∈ lw_use := ax_inT 6 227 (by decide +kernel)
theorem mlX11_303 : ax_ms RX11 303 yX11_areAlike cX11_areAlike 4 (some .boolean) 2 := ⟨⟨ax_inT 6 226 (by decide +kernel), miX11, mcX11_areAlike, mdX11_areAlike, by decide⟩, msX11_areAlike⟩
theorem mcX11_isWell : Cond.code yX11_isWell cX11_isWell 4 (some .boolean) ∈ lw_use := ax_inC 6 206 rfl
theorem mdX11_isWell : (yX11_isWell.cls ≠ "java/lang/invoke/MethodHandle" ∧ yX11_isWell.cls ≠ "java/lang/invoke/VarHandle" ∧ (parseMethodDescriptor yX11_isWell.desc).map (fun d => d.parameters.length) = some 1) := by decide +kernel
theorem mhX11_isWell : Cond.instanceMethod yX11_isWell ∈ lw_use := ax_inT 6 205 (by decide +kernel)
theorem meX11_isWell : Cond.selects yX11_isWell.cls yX11_isWell yX11_isWell ∈ lw_use := ax_inT 11 12 (by decide +kernel)
theorem mlX11_307 : ax_mv RX11 307 yX11_isWell cX11_isWell 4 (some .boolean) 1 := ⟨⟨ax_inT 6 203 (by decide +kernel), miX11, mcX11_isWell, mdX11_isWell, by decide⟩, mhX11_isWell, meX11_isWell⟩
theorem mcX11_maps : Cond.code yX11_maps cX11_maps 7 none ∈ lw_use := ax_inC 6 217 rfl
theorem mdX11_maps : (yX11_maps.cls ≠ "java/lang/invoke/MethodHandle" ∧ yX11_maps.cls ≠ "java/lang/invoke/VarHandle" ∧ (parseMethodDescriptor yX11_maps.desc).map (fun d => d.parameters.length) = some 1) := by decide +kernel
theorem mhX11_maps : Cond.instanceMethod yX11_maps ∈ lw_use := ax_inT 6 216 (by decide +kernel)
theorem meX11_maps : Cond.selects yX11_maps.cls yX11_maps yX11_maps ∈ lw_use := ax_inT 11 14 (by decide +kernel)
theorem mlX11_310 : ax_mv RX11 310 yX11_maps cX11_maps 7 none 1 := ⟨⟨ax_inT 6 214 (by decide +kernel), miX11, mcX11_maps, mdX11_maps, by decide⟩, mhX11_maps, meX11_maps⟩
theorem mcX11_isOneToOne : Cond.code yX11_isOneToOne cX11_isOneToOne 2 (some .boolean) ∈ lw_use := ax_inC 6 225 rfl
theorem mdX11_isOneToOne : (yX11_isOneToOne.cls ≠ "java/lang/invoke/MethodHandle" ∧ yX11_isOneToOne.cls ≠ "java/lang/invoke/VarHandle" ∧ (parseMethodDescriptor yX11_isOneToOne.desc).map (fun d => d.parameters.length) = some 1) := by decide +kernel
theorem mhX11_isOneToOne : Cond.instanceMethod yX11_isOneToOne ∈ lw_use := ax_inT 6 224 (by decide +kernel)
theorem meX11_isOneToOne : Cond.selects yX11_isOneToOne.cls yX11_isOneToOne yX11_isOneToOne ∈ lw_use := ax_inT 12 0 (by decide +kernel)
theorem mlX11_313 : ax_mv RX11 313 yX11_isOneToOne cX11_isOneToOne 2 (some .boolean) 1 := ⟨⟨ax_inT 6 222 (by decide +kernel), miX11, mcX11_isOneToOne, mdX11_isOneToOne, by decide⟩, mhX11_isOneToOne, meX11_isOneToOne⟩
theorem mcX11_isOnto : Cond.code yX11_isOnto cX11_isOnto 4 (some .boolean) ∈ lw_use := ax_inC 6 232 rfl
theorem mdX11_isOnto : (yX11_isOnto.cls ≠ "java/lang/invoke/MethodHandle" ∧ yX11_isOnto.cls ≠ "java/lang/invoke/VarHandle" ∧ (parseMethodDescriptor yX11_isOnto.desc).map (fun d => d.parameters.length) = some 1) := by decide +kernel
theorem mhX11_isOnto : Cond.instanceMethod yX11_isOnto ∈ lw_use := ax_inT 6 231 (by decide +kernel)
theorem meX11_isOnto : Cond.selects yX11_isOnto.cls yX11_isOnto yX11_isOnto ∈ lw_use := ax_inT 12 1 (by decide +kernel)
theorem mlX11_316 : ax_mv RX11 316 yX11_isOnto cX11_isOnto 4 (some .boolean) 1 := ⟨⟨ax_inT 6 229 (by decide +kernel), miX11, mcX11_isOnto, mdX11_isOnto, by decide⟩, mhX11_isOnto, meX11_isOnto⟩
theorem mcX11_ringsBetween : Cond.code yX11_ringsBetween cX11_ringsBetween 9 none ∈ lw_use := ax_inC 7 5 rfl
theorem mdX11_ringsBetween : (yX11_ringsBetween.cls ≠ "java/lang/invoke/MethodHandle" ∧ yX11_ringsBetween.cls ≠ "java/lang/invoke/VarHandle" ∧ (parseMethodDescriptor yX11_ringsBetween.desc).map (fun d => d.parameters.length) = some 3) := by decide +kernel
theorem mhX11_ringsBetween : Cond.instanceMethod yX11_ringsBetween ∈ lw_use := ax_inT 7 4 (by decide +kernel)
theorem meX11_ringsBetween : Cond.selects yX11_ringsBetween.cls yX11_ringsBetween yX11_ringsBetween ∈ lw_use := ax_inT 12 2 (by decide +kernel)
theorem mlX11_321 : ax_mv RX11 321 yX11_ringsBetween cX11_ringsBetween 9 none 3 := ⟨⟨ax_inT 7 2 (by decide +kernel), miX11, mcX11_ringsBetween, mdX11_ringsBetween, by decide⟩, mhX11_ringsBetween, meX11_ringsBetween⟩
theorem mcX11_comesBack : Cond.code yX11_comesBack cX11_comesBack 6 (some .boolean) ∈ lw_use := ax_inC 7 13 rfl
theorem mdX11_comesBack : (yX11_comesBack.cls ≠ "java/lang/invoke/MethodHandle" ∧ yX11_comesBack.cls ≠ "java/lang/invoke/VarHandle" ∧ (parseMethodDescriptor yX11_comesBack.desc).map (fun d => d.parameters.length) = some 1) := by decide +kernel
theorem mhX11_comesBack : Cond.instanceMethod yX11_comesBack ∈ lw_use := ax_inT 7 12 (by decide +kernel)
theorem meX11_comesBack : Cond.selects yX11_comesBack.cls yX11_comesBack yX11_comesBack ∈ lw_use := ax_inT 12 3 (by decide +kernel)
theorem mlX11_325 : ax_mv RX11 325 yX11_comesBack cX11_comesBack 6 (some .boolean) 1 := ⟨⟨ax_inT 7 10 (by decide +kernel), miX11, mcX11_comesBack, mdX11_comesBack, by decide⟩, mhX11_comesBack, meX11_comesBack⟩
theorem mcX11_isExact : Cond.code yX11_isExact cX11_isExact 4 (some .boolean) ∈ lw_use := ax_inC 7 21 rfl
theorem mdX11_isExact : (yX11_isExact.cls ≠ "java/lang/invoke/MethodHandle" ∧ yX11_isExact.cls ≠ "java/lang/invoke/VarHandle" ∧ (parseMethodDescriptor yX11_isExact.desc).map (fun d => d.parameters.length) = some 2) := by decide +kernel
theorem mhX11_isExact : Cond.instanceMethod yX11_isExact ∈ lw_use := ax_inT 7 20 (by decide +kernel)
theorem meX11_isExact : Cond.selects yX11_isExact.cls yX11_isExact yX11_isExact ∈ lw_use := ax_inT 12 4 (by decide +kernel)
theorem mlX11_328 : ax_mv RX11 328 yX11_isExact cX11_isExact 4 (some .boolean) 2 := ⟨⟨ax_inT 7 18 (by decide +kernel), miX11, mcX11_isExact, mdX11_isExact, by decide⟩, mhX11_isExact, meX11_isExact⟩
theorem mcX11_next : Cond.code yX11_next cX11_next 1 (some .int) ∈ lw_use := ax_inC 7 42 rfl
theorem mdX11_next : (yX11_next.cls ≠ "java/lang/invoke/MethodHandle" ∧ yX11_next.cls ≠ "java/lang/invoke/VarHandle" ∧ (parseMethodDescriptor yX11_next.desc).map (fun d => d.parameters.length) = some 0) := by decide +kernel
theorem mhX11_next : Cond.instanceMethod yX11_next ∈ lw_use := ax_inT 7 41 (by decide +kernel)
theorem meX11_next : Cond.selects yX11_next.cls yX11_next yX11_next ∈ lw_use := ax_inT 12 7 (by decide +kernel)
theorem mlX11_343 : ax_mv RX11 343 yX11_next cX11_next 1 (some .int) 0 := ⟨⟨ax_inT 7 39 (by decide +kernel), miX11, mcX11_next, mdX11_next, by decide⟩, mhX11_next, meX11_next⟩
theorem mcX11_lays : Cond.code yX11_lays cX11_lays 2 none ∈ lw_use := ax_inC 7 54 rfl
theorem mdX11_lays : (yX11_lays.cls ≠ "java/lang/invoke/MethodHandle" ∧ yX11_lays.cls ≠ "java/lang/invoke/VarHandle" ∧ (parseMethodDescriptor yX11_lays.desc).map (fun d => d.parameters.length) = some 1) := by decide +kernel
theorem mhX11_lays : Cond.instanceMethod yX11_lays ∈ lw_use := ax_inT 7 53 (by decide +kernel)
theorem meX11_lays : Cond.selects yX11_lays.cls yX11_lays yX11_lays ∈ lw_use := ax_inT 12 10 (by decide +kernel)
theorem mlX11_349 : ax_mv RX11 349 yX11_lays cX11_lays 2 none 1 := ⟨⟨ax_inT 7 51 (by decide +kernel), miX11, mcX11_lays, mdX11_lays, by decide⟩, mhX11_lays, meX11_lays⟩
theorem mcX11_takes : Cond.code yX11_takes cX11_takes 3 (some .boolean) ∈ lw_use := ax_inC 7 38 rfl
theorem mdX11_takes : (yX11_takes.cls ≠ "java/lang/invoke/MethodHandle" ∧ yX11_takes.cls ≠ "java/lang/invoke/VarHandle" ∧ (parseMethodDescriptor yX11_takes.desc).map (fun d => d.parameters.length) = some 1) := by decide +kernel
theorem mhX11_takes : Cond.instanceMethod yX11_takes ∈ lw_use := ax_inT 7 37 (by decide +kernel)
theorem meX11_takes : Cond.selects yX11_takes.cls yX11_takes yX11_takes ∈ lw_use := ax_inT 12 6 (by decide +kernel)
theorem mlX11_355 : ax_mv RX11 355 yX11_takes cX11_takes 3 (some .boolean) 1 := ⟨⟨ax_inT 7 35 (by decide +kernel), miX11, mcX11_takes, mdX11_takes, by decide⟩, mhX11_takes, meX11_takes⟩
theorem mcX11_sum : Cond.code yX11_sum cX11_sum 3 none ∈ lw_use := ax_inC 7 34 rfl
theorem mdX11_sum : (yX11_sum.cls ≠ "java/lang/invoke/MethodHandle" ∧ yX11_sum.cls ≠ "java/lang/invoke/VarHandle" ∧ (parseMethodDescriptor yX11_sum.desc).map (fun d => d.parameters.length) = some 0) := by decide +kernel
theorem mhX11_sum : Cond.instanceMethod yX11_sum ∈ lw_use := ax_inT 7 33 (by decide +kernel)
theorem meX11_sum : Cond.selects yX11_sum.cls yX11_sum yX11_sum ∈ lw_use := ax_inT 12 5 (by decide +kernel)
theorem mlX11_358 : ax_mv RX11 358 yX11_sum cX11_sum 3 none 0 := ⟨⟨ax_inT 7 31 (by decide +kernel), miX11, mcX11_sum, mdX11_sum, by decide⟩, mhX11_sum, meX11_sum⟩
theorem mcX11_one : Cond.code yX11_one cX11_one 4 none ∈ lw_use := ax_inC 7 50 rfl
theorem mdX11_one : (yX11_one.cls ≠ "java/lang/invoke/MethodHandle" ∧ yX11_one.cls ≠ "java/lang/invoke/VarHandle" ∧ (parseMethodDescriptor yX11_one.desc).map (fun d => d.parameters.length) = some 0) := by decide +kernel
theorem mhX11_one : Cond.instanceMethod yX11_one ∈ lw_use := ax_inT 7 49 (by decide +kernel)
theorem meX11_one : Cond.selects yX11_one.cls yX11_one yX11_one ∈ lw_use := ax_inT 12 9 (by decide +kernel)
theorem mlX11_361 : ax_mv RX11 361 yX11_one cX11_one 4 none 0 := ⟨⟨ax_inT 7 47 (by decide +kernel), miX11, mcX11_one, mdX11_one, by decide⟩, mhX11_one, meX11_one⟩
theorem mcX11_chain : Cond.code yX11_chain cX11_chain 1 none ∈ lw_use := ax_inC 7 46 rfl
theorem mdX11_chain : (yX11_chain.cls ≠ "java/lang/invoke/MethodHandle" ∧ yX11_chain.cls ≠ "java/lang/invoke/VarHandle" ∧ (parseMethodDescriptor yX11_chain.desc).map (fun d => d.parameters.length) = some 0) := by decide +kernel
theorem mhX11_chain : Cond.instanceMethod yX11_chain ∈ lw_use := ax_inT 7 45 (by decide +kernel)
theorem meX11_chain : Cond.selects yX11_chain.cls yX11_chain yX11_chain ∈ lw_use := ax_inT 12 8 (by decide +kernel)
theorem mlX11_364 : ax_mv RX11 364 yX11_chain cX11_chain 1 none 0 := ⟨⟨ax_inT 7 43 (by decide +kernel), miX11, mcX11_chain, mdX11_chain, by decide⟩, mhX11_chain, meX11_chain⟩
theorem mcX11_joined : Cond.code yX11_joined cX11_joined 11 (some .long) ∈ lw_use := ax_inC 7 78 rfl
theorem mdX11_joined : (yX11_joined.cls ≠ "java/lang/invoke/MethodHandle" ∧ yX11_joined.cls ≠ "java/lang/invoke/VarHandle" ∧ (parseMethodDescriptor yX11_joined.desc).map (fun d => d.parameters.length) = some 5) := by decide +kernel
theorem mhX11_joined : Cond.instanceMethod yX11_joined ∈ lw_use := ax_inT 7 77 (by decide +kernel)
theorem meX11_joined : Cond.selects yX11_joined.cls yX11_joined yX11_joined ∈ lw_use := ax_inT 13 0 (by decide +kernel)
theorem mlX11_367 : ax_mv RX11 367 yX11_joined cX11_joined 11 (some .long) 5 := ⟨⟨ax_inT 7 75 (by decide +kernel), miX11, mcX11_joined, mdX11_joined, by decide⟩, mhX11_joined, meX11_joined⟩
theorem mcX11_worksOut : Cond.code yX11_worksOut cX11_worksOut 8 (some .boolean) ∈ lw_use := ax_inC 7 74 rfl
theorem mdX11_worksOut : (yX11_worksOut.cls ≠ "java/lang/invoke/MethodHandle" ∧ yX11_worksOut.cls ≠ "java/lang/invoke/VarHandle" ∧ (parseMethodDescriptor yX11_worksOut.desc).map (fun d => d.parameters.length) = some 3) := by decide +kernel
theorem mhX11_worksOut : Cond.instanceMethod yX11_worksOut ∈ lw_use := ax_inT 7 73 (by decide +kernel)
theorem meX11_worksOut : Cond.selects yX11_worksOut.cls yX11_worksOut yX11_worksOut ∈ lw_use := ax_inT 12 15 (by decide +kernel)
theorem mlX11_375 : ax_mv RX11 375 yX11_worksOut cX11_worksOut 8 (some .boolean) 3 := ⟨⟨ax_inT 7 71 (by decide +kernel), miX11, mcX11_worksOut, mdX11_worksOut, by decide⟩, mhX11_worksOut, meX11_worksOut⟩
theorem mcX11_areMaps : Cond.code yX11_areMaps cX11_areMaps 3 (some .boolean) ∈ lw_use := ax_inC 7 62 rfl
theorem mdX11_areMaps : (yX11_areMaps.cls ≠ "java/lang/invoke/MethodHandle" ∧ yX11_areMaps.cls ≠ "java/lang/invoke/VarHandle" ∧ (parseMethodDescriptor yX11_areMaps.desc).map (fun d => d.parameters.length) = some 0) := by decide +kernel
theorem mhX11_areMaps : Cond.instanceMethod yX11_areMaps ∈ lw_use := ax_inT 7 61 (by decide +kernel)
theorem meX11_areMaps : Cond.selects yX11_areMaps.cls yX11_areMaps yX11_areMaps ∈ lw_use := ax_inT 12 12 (by decide +kernel)
theorem mlX11_378 : ax_mv RX11 378 yX11_areMaps cX11_areMaps 3 (some .boolean) 0 := ⟨⟨ax_inT 7 59 (by decide +kernel), miX11, mcX11_areMaps, mdX11_areMaps, by decide⟩, mhX11_areMaps, meX11_areMaps⟩
theorem mcX11_goTogether : Cond.code yX11_goTogether cX11_goTogether 4 (some .boolean) ∈ lw_use := ax_inC 7 66 rfl
theorem mdX11_goTogether : (yX11_goTogether.cls ≠ "java/lang/invoke/MethodHandle" ∧ yX11_goTogether.cls ≠ "java/lang/invoke/VarHandle" ∧ (parseMethodDescriptor yX11_goTogether.desc).map (fun d => d.parameters.length) = some 0) := by decide +kernel
theorem mhX11_goTogether : Cond.instanceMethod yX11_goTogether ∈ lw_use := ax_inT 7 65 (by decide +kernel)
theorem meX11_goTogether : Cond.selects yX11_goTogether.cls yX11_goTogether yX11_goTogether ∈ lw_use := ax_inT 12 13 (by decide +kernel)
theorem mlX11_382 : ax_mv RX11 382 yX11_goTogether cX11_goTogether 4 (some .boolean) 0 := ⟨⟨ax_inT 7 63 (by decide +kernel), miX11, mcX11_goTogether, mdX11_goTogether, by decide⟩, mhX11_goTogether, meX11_goTogether⟩
theorem mcX11_tellsTable : Cond.code yX11_tellsTable cX11_tellsTable 5 (some .boolean) ∈ lw_use := ax_inC 7 70 rfl
theorem mdX11_tellsTable : (yX11_tellsTable.cls ≠ "java/lang/invoke/MethodHandle" ∧ yX11_tellsTable.cls ≠ "java/lang/invoke/VarHandle" ∧ (parseMethodDescriptor yX11_tellsTable.desc).map (fun d => d.parameters.length) = some 0) := by decide +kernel
theorem mhX11_tellsTable : Cond.instanceMethod yX11_tellsTable ∈ lw_use := ax_inT 7 69 (by decide +kernel)
theorem meX11_tellsTable : Cond.selects yX11_tellsTable.cls yX11_tellsTable yX11_tellsTable ∈ lw_use := ax_inT 12 14 (by decide +kernel)
theorem mlX11_385 : ax_mv RX11 385 yX11_tellsTable cX11_tellsTable 5 (some .boolean) 0 := ⟨⟨ax_inT 7 67 (by decide +kernel), miX11, mcX11_tellsTable, mdX11_tellsTable, by decide⟩, mhX11_tellsTable, meX11_tellsTable⟩
theorem mcX11_restsTable : Cond.code yX11_restsTable cX11_restsTable 4 (some .boolean) ∈ lw_use := ax_inC 7 84 rfl
theorem mdX11_restsTable : (yX11_restsTable.cls ≠ "java/lang/invoke/MethodHandle" ∧ yX11_restsTable.cls ≠ "java/lang/invoke/VarHandle" ∧ (parseMethodDescriptor yX11_restsTable.desc).map (fun d => d.parameters.length) = some 0) := by decide +kernel
theorem mhX11_restsTable : Cond.instanceMethod yX11_restsTable ∈ lw_use := ax_inT 7 83 (by decide +kernel)
theorem meX11_restsTable : Cond.selects yX11_restsTable.cls yX11_restsTable yX11_restsTable ∈ lw_use := ax_inT 13 1 (by decide +kernel)
theorem mlX11_388 : ax_mv RX11 388 yX11_restsTable cX11_restsTable 4 (some .boolean) 0 := ⟨⟨ax_inT 7 81 (by decide +kernel), miX11, mcX11_restsTable, mdX11_restsTable, by decide⟩, mhX11_restsTable, meX11_restsTable⟩
theorem mcX11_becomes : Cond.code yX11_becomes cX11_becomes 3 (some .int) ∈ lw_use := ax_inC 7 58 rfl
theorem mdX11_becomes : (yX11_becomes.cls ≠ "java/lang/invoke/MethodHandle" ∧ yX11_becomes.cls ≠ "java/lang/invoke/VarHandle" ∧ (parseMethodDescriptor yX11_becomes.desc).map (fun d => d.parameters.length) = some 1) := by decide +kernel
theorem mhX11_becomes : Cond.instanceMethod yX11_becomes ∈ lw_use := ax_inT 7 57 (by decide +kernel)
theorem meX11_becomes : Cond.selects yX11_becomes.cls yX11_becomes yX11_becomes ∈ lw_use := ax_inT 12 11 (by decide +kernel)
theorem mlX11_391 : ax_mv RX11 391 yX11_becomes cX11_becomes 3 (some .int) 1 := ⟨⟨ax_inT 7 55 (by decide +kernel), miX11, mcX11_becomes, mdX11_becomes, by decide⟩, mhX11_becomes, meX11_becomes⟩
theorem mcX11_goesAlike : Cond.code yX11_goesAlike cX11_goesAlike 7 (some .boolean) ∈ lw_use := ax_inC 7 100 rfl
theorem mdX11_goesAlike : (yX11_goesAlike.cls ≠ "java/lang/invoke/MethodHandle" ∧ yX11_goesAlike.cls ≠ "java/lang/invoke/VarHandle" ∧ (parseMethodDescriptor yX11_goesAlike.desc).map (fun d => d.parameters.length) = some 4) := by decide +kernel
theorem mhX11_goesAlike : Cond.instanceMethod yX11_goesAlike ∈ lw_use := ax_inT 7 99 (by decide +kernel)
theorem meX11_goesAlike : Cond.selects yX11_goesAlike.cls yX11_goesAlike yX11_goesAlike ∈ lw_use := ax_inT 13 4 (by decide +kernel)
theorem mlX11_394 : ax_mv RX11 394 yX11_goesAlike cX11_goesAlike 7 (some .boolean) 4 := ⟨⟨ax_inT 7 97 (by decide +kernel), miX11, mcX11_goesAlike, mdX11_goesAlike, by decide⟩, mhX11_goesAlike, meX11_goesAlike⟩
theorem mcX11_against : Cond.code yX11_against cX11_against 5 (some .int) ∈ lw_use := ax_inC 7 92 rfl
theorem mdX11_against : (yX11_against.cls ≠ "java/lang/invoke/MethodHandle" ∧ yX11_against.cls ≠ "java/lang/invoke/VarHandle" ∧ (parseMethodDescriptor yX11_against.desc).map (fun d => d.parameters.length) = some 2) := by decide +kernel
theorem mhX11_against : Cond.instanceMethod yX11_against ∈ lw_use := ax_inT 7 91 (by decide +kernel)
theorem meX11_against : Cond.selects yX11_against.cls yX11_against yX11_against ∈ lw_use := ax_inT 13 2 (by decide +kernel)
theorem mlX11_398 : ax_mv RX11 398 yX11_against cX11_against 5 (some .int) 2 := ⟨⟨ax_inT 7 89 (by decide +kernel), miX11, mcX11_against, mdX11_against, by decide⟩, mhX11_against, meX11_against⟩
theorem mcX11_isRight : Cond.code yX11_isRight cX11_isRight 3 (some .boolean) ∈ lw_use := ax_inC 7 96 rfl
theorem mdX11_isRight : (yX11_isRight.cls ≠ "java/lang/invoke/MethodHandle" ∧ yX11_isRight.cls ≠ "java/lang/invoke/VarHandle" ∧ (parseMethodDescriptor yX11_isRight.desc).map (fun d => d.parameters.length) = some 0) := by decide +kernel
theorem mhX11_isRight : Cond.instanceMethod yX11_isRight ∈ lw_use := ax_inT 7 95 (by decide +kernel)
theorem meX11_isRight : Cond.selects yX11_isRight.cls yX11_isRight yX11_isRight ∈ lw_use := ax_inT 13 3 (by decide +kernel)
theorem mlX11_401 : ax_mv RX11 401 yX11_isRight cX11_isRight 3 (some .boolean) 0 := ⟨⟨ax_inT 7 93 (by decide +kernel), miX11, mcX11_isRight, mdX11_isRight, by decide⟩, mhX11_isRight, meX11_isRight⟩
theorem mcX11_isMove : Cond.code yX11_isMove cX11_isMove 2 (some .boolean) ∈ lw_use := ax_inC 7 111 rfl
theorem mdX11_isMove : (yX11_isMove.cls ≠ "java/lang/invoke/MethodHandle" ∧ yX11_isMove.cls ≠ "java/lang/invoke/VarHandle" ∧ (parseMethodDescriptor yX11_isMove.desc).map (fun d => d.parameters.length) = some 2) := by decide +kernel
theorem msX11_isMove : Cond.static yX11_isMove ∈ lw_use := ax_inT 7 110 (by decide +kernel)
theorem mlX11_404 : ax_ms RX11 404 yX11_isMove cX11_isMove 2 (some .boolean) 2 := ⟨⟨ax_inT 7 109 (by decide +kernel), miX11, mcX11_isMove, mdX11_isMove, by decide⟩, msX11_isMove⟩
theorem mcX11_goesBy : Cond.code yX11_goesBy cX11_goesBy 5 (some .int) ∈ lw_use := ax_inC 7 131 rfl
theorem mdX11_goesBy : (yX11_goesBy.cls ≠ "java/lang/invoke/MethodHandle" ∧ yX11_goesBy.cls ≠ "java/lang/invoke/VarHandle" ∧ (parseMethodDescriptor yX11_goesBy.desc).map (fun d => d.parameters.length) = some 1) := by decide +kernel
theorem mhX11_goesBy : Cond.instanceMethod yX11_goesBy ∈ lw_use := ax_inT 7 130 (by decide +kernel)
theorem meX11_goesBy : Cond.selects yX11_goesBy.cls yX11_goesBy yX11_goesBy ∈ lw_use := ax_inT 13 7 (by decide +kernel)
theorem mlX11_410 : ax_mv RX11 410 yX11_goesBy cX11_goesBy 5 (some .int) 1 := ⟨⟨ax_inT 7 128 (by decide +kernel), miX11, mcX11_goesBy, mdX11_goesBy, by decide⟩, mhX11_goesBy, meX11_goesBy⟩
theorem mcX11_does : Cond.code yX11_does cX11_does 4 (some .int) ∈ lw_use := ax_inC 7 127 rfl
theorem mdX11_does : (yX11_does.cls ≠ "java/lang/invoke/MethodHandle" ∧ yX11_does.cls ≠ "java/lang/invoke/VarHandle" ∧ (parseMethodDescriptor yX11_does.desc).map (fun d => d.parameters.length) = some 1) := by decide +kernel
theorem mhX11_does : Cond.instanceMethod yX11_does ∈ lw_use := ax_inT 7 126 (by decide +kernel)
theorem meX11_does : Cond.selects yX11_does.cls yX11_does yX11_does ∈ lw_use := ax_inT 13 6 (by decide +kernel)
theorem mlX11_413 : ax_mv RX11 413 yX11_does cX11_does 4 (some .int) 1 := ⟨⟨ax_inT 7 124 (by decide +kernel), miX11, mcX11_does, mdX11_does, by decide⟩, mhX11_does, meX11_does⟩
theorem mcX11_runsAll : Cond.code yX11_runsAll cX11_runsAll 3 (some .int) ∈ lw_use := ax_inC 7 123 rfl
theorem mdX11_runsAll : (yX11_runsAll.cls ≠ "java/lang/invoke/MethodHandle" ∧ yX11_runsAll.cls ≠ "java/lang/invoke/VarHandle" ∧ (parseMethodDescriptor yX11_runsAll.desc).map (fun d => d.parameters.length) = some 0) := by decide +kernel
theorem mhX11_runsAll : Cond.instanceMethod yX11_runsAll ∈ lw_use := ax_inT 7 122 (by decide +kernel)
theorem meX11_runsAll : Cond.selects yX11_runsAll.cls yX11_runsAll yX11_runsAll ∈ lw_use := ax_inT 13 5 (by decide +kernel)
theorem mlX11_416 : ax_mv RX11 416 yX11_runsAll cX11_runsAll 3 (some .int) 0 := ⟨⟨ax_inT 7 120 (by decide +kernel), miX11, mcX11_runsAll, mdX11_runsAll, by decide⟩, mhX11_runsAll, meX11_runsAll⟩
theorem mcX11_isShelf : Cond.code yX11_isShelf cX11_isShelf 1 (some .boolean) ∈ lw_use := ax_inC 7 150 rfl
theorem mdX11_isShelf : (yX11_isShelf.cls ≠ "java/lang/invoke/MethodHandle" ∧ yX11_isShelf.cls ≠ "java/lang/invoke/VarHandle" ∧ (parseMethodDescriptor yX11_isShelf.desc).map (fun d => d.parameters.length) = some 1) := by decide +kernel
theorem msX11_isShelf : Cond.static yX11_isShelf ∈ lw_use := ax_inT 7 149 (by decide +kernel)
theorem mlX11_419 : ax_ms RX11 419 yX11_isShelf cX11_isShelf 1 (some .boolean) 1 := ⟨⟨ax_inT 7 148 (by decide +kernel), miX11, mcX11_isShelf, mdX11_isShelf, by decide⟩, msX11_isShelf⟩
theorem mcX11_laysDown : Cond.code yX11_laysDown cX11_laysDown 8 (some .int) ∈ lw_use := ax_inC 7 162 rfl
theorem mdX11_laysDown : (yX11_laysDown.cls ≠ "java/lang/invoke/MethodHandle" ∧ yX11_laysDown.cls ≠ "java/lang/invoke/VarHandle" ∧ (parseMethodDescriptor yX11_laysDown.desc).map (fun d => d.parameters.length) = some 4) := by decide +kernel
theorem mhX11_laysDown : Cond.instanceMethod yX11_laysDown ∈ lw_use := ax_inT 7 161 (by decide +kernel)
theorem meX11_laysDown : Cond.selects yX11_laysDown.cls yX11_laysDown yX11_laysDown ∈ lw_use := ax_inT 13 8 (by decide +kernel)
theorem mlX11_422 : ax_mv RX11 422 yX11_laysDown cX11_laysDown 8 (some .int) 4 := ⟨⟨ax_inT 7 159 (by decide +kernel), miX11, mcX11_laysDown, mdX11_laysDown, by decide⟩, mhX11_laysDown, meX11_laysDown⟩
theorem mcX11_ofGroups : Cond.code yX11_ofGroups cX11_ofGroups 4 (some .int) ∈ lw_use := ax_inC 7 184 rfl
theorem mdX11_ofGroups : (yX11_ofGroups.cls ≠ "java/lang/invoke/MethodHandle" ∧ yX11_ofGroups.cls ≠ "java/lang/invoke/VarHandle" ∧ (parseMethodDescriptor yX11_ofGroups.desc).map (fun d => d.parameters.length) = some 1) := by decide +kernel
theorem mhX11_ofGroups : Cond.instanceMethod yX11_ofGroups ∈ lw_use := ax_inT 7 183 (by decide +kernel)
theorem meX11_ofGroups : Cond.selects yX11_ofGroups.cls yX11_ofGroups yX11_ofGroups ∈ lw_use := ax_inT 13 9 (by decide +kernel)
theorem mlX11_430 : ax_mv RX11 430 yX11_ofGroups cX11_ofGroups 4 (some .int) 1 := ⟨⟨ax_inT 7 181 (by decide +kernel), miX11, mcX11_ofGroups, mdX11_ofGroups, by decide⟩, mhX11_ofGroups, meX11_ofGroups⟩
theorem mcX11_ofMaps : Cond.code yX11_ofMaps cX11_ofMaps 4 (some .int) ∈ lw_use := ax_inC 7 188 rfl
theorem mdX11_ofMaps : (yX11_ofMaps.cls ≠ "java/lang/invoke/MethodHandle" ∧ yX11_ofMaps.cls ≠ "java/lang/invoke/VarHandle" ∧ (parseMethodDescriptor yX11_ofMaps.desc).map (fun d => d.parameters.length) = some 1) := by decide +kernel
theorem mhX11_ofMaps : Cond.instanceMethod yX11_ofMaps ∈ lw_use := ax_inT 7 187 (by decide +kernel)
theorem meX11_ofMaps : Cond.selects yX11_ofMaps.cls yX11_ofMaps yX11_ofMaps ∈ lw_use := ax_inT 13 10 (by decide +kernel)
theorem mlX11_433 : ax_mv RX11 433 yX11_ofMaps cX11_ofMaps 4 (some .int) 1 := ⟨⟨ax_inT 7 185 (by decide +kernel), miX11, mcX11_ofMaps, mdX11_ofMaps, by decide⟩, mhX11_ofMaps, meX11_ofMaps⟩
theorem mcJ7_rangeCheck_23922 : Cond.code yJ7_rangeCheck_23922 cJ7_rangeCheck_23922 3 none ∈ lw_use := ax_inC 3 149 rfl
theorem mdJ7_rangeCheck_23922 : (yJ7_rangeCheck_23922.cls ≠ "java/lang/invoke/MethodHandle" ∧ yJ7_rangeCheck_23922.cls ≠ "java/lang/invoke/VarHandle" ∧ (parseMethodDescriptor yJ7_rangeCheck_23922.desc).map (fun d => d.parameters.length) = some 3) := by decide +kernel
theorem msJ7_rangeCheck_23922 : Cond.static yJ7_rangeCheck_23922 ∈ lw_use := ax_inT 3 148 (by decide +kernel)
theorem mlJ7_13 : ax_ms RJ7 13 yJ7_rangeCheck_23922 cJ7_rangeCheck_23922 3 none 3 := ⟨⟨ax_inT 3 147 (by decide +kernel), miJ7, mcJ7_rangeCheck_23922, mdJ7_rangeCheck_23922, by decide⟩, msJ7_rangeCheck_23922⟩
theorem mcX10_greatestDivisor : Cond.code yX10_greatestDivisor cX10_greatestDivisor 11 (some .long) ∈ lw_use := ax_inC 3 14 rfl
theorem mdX10_greatestDivisor : (yX10_greatestDivisor.cls ≠ "java/lang/invoke/MethodHandle" ∧ yX10_greatestDivisor.cls ≠ "java/lang/invoke/VarHandle" ∧ (parseMethodDescriptor yX10_greatestDivisor.desc).map (fun d => d.parameters.length) = some 2) := by decide +kernel
theorem msX10_greatestDivisor : Cond.static yX10_greatestDivisor ∈ lw_use := ax_inT 3 13 (by decide +kernel)
theorem mnX2_75 : ax_mn RX2 "GroupsByRelations" 75 yX10_greatestDivisor cX10_greatestDivisor 11 (some .long) 2 := ⟨ax_inT 3 12 (by decide +kernel), miX10, mcX10_greatestDivisor, mdX10_greatestDivisor, by decide, msX10_greatestDivisor⟩
theorem mnX3_116 : ax_mn RX3 "GroupsByRelations" 116 yX2_startsWithZeros cX2_startsWithZeros 3 (some .boolean) 2 := ⟨ax_inT 4 18 (by decide +kernel), miX2, mcX2_startsWithZeros, mdX2_startsWithZeros, by decide, msX2_startsWithZeros⟩
theorem mnX4_53 : ax_mn RX4 "GroupsByRelations" 53 yX10_greatestDivisor cX10_greatestDivisor 11 (some .long) 2 := ⟨ax_inT 3 94 (by decide +kernel), miX10, mcX10_greatestDivisor, mdX10_greatestDivisor, by decide, msX10_greatestDivisor⟩
theorem klX10_190 : Cond.constantLong RX10 190 (99) ∈ lw_use := ax_inT 3 114 (by decide +kernel)
theorem klX10_391 : Cond.constantLong RX10 391 (9) ∈ lw_use := ax_inT 4 183 (by decide +kernel)
theorem klX10_393 : Cond.constantLong RX10 393 (-4000000000000000000) ∈ lw_use := ax_inT 3 49 (by decide +kernel)
theorem klX10_432 : Cond.constantLong RX10 432 (1000000000) ∈ lw_use := ax_inT 4 221 (by decide +kernel)
theorem klX2_59 : Cond.constantLong RX2 59 (-1) ∈ lw_use := ax_inT 2 226 (by decide +kernel)
theorem klX9_67 : Cond.constantLong RX9 67 (-1) ∈ lw_use := ax_inT 4 91 (by decide +kernel)
theorem klX9_104 : Cond.constantLong RX9 104 (1000000000) ∈ lw_use := ax_inT 4 82 (by decide +kernel)
theorem klL_89 : Cond.constantLong RL 89 (4294967295) ∈ lw_use := ax_inT 7 197 (by decide +kernel)
theorem klX11_111 : Cond.constantLong RX11 111 (4000000000000000000) ∈ lw_use := ax_inT 6 134 (by decide +kernel)
theorem klX11_121 : Cond.constantLong RX11 121 (5) ∈ lw_use := ax_inT 6 0 (by decide +kernel)
theorem klX11_127 : Cond.constantLong RX11 127 (7) ∈ lw_use := ax_inT 6 17 (by decide +kernel)
theorem klX11_129 : Cond.constantLong RX11 129 (-999) ∈ lw_use := ax_inT 6 129 (by decide +kernel)
theorem klX11_131 : Cond.constantLong RX11 131 (999) ∈ lw_use := ax_inT 6 130 (by decide +kernel)
theorem klX11_156 : Cond.constantLong RX11 156 (-1) ∈ lw_use := ax_inT 6 118 (by decide +kernel)
theorem klX11_211 : Cond.constantLong RX11 211 (3) ∈ lw_use := ax_inT 6 4 (by decide +kernel)
theorem klX11_218 : Cond.constantLong RX11 218 (-9) ∈ lw_use := ax_inT 6 30 (by decide +kernel)
theorem klX11_220 : Cond.constantLong RX11 220 (9) ∈ lw_use := ax_inT 6 31 (by decide +kernel)
theorem klX11_285 : Cond.constantLong RX11 285 (4) ∈ lw_use := ax_inT 6 158 (by decide +kernel)
theorem klX11_296 : Cond.constantLong RX11 296 (-99) ∈ lw_use := ax_inT 6 177 (by decide +kernel)
theorem klX11_298 : Cond.constantLong RX11 298 (99) ∈ lw_use := ax_inT 6 178 (by decide +kernel)
theorem klX11_319 : Cond.constantLong RX11 319 (2) ∈ lw_use := ax_inT 7 1 (by decide +kernel)
theorem klX11_331 : Cond.constantLong RX11 331 (8) ∈ lw_use := ax_inT 7 26 (by decide +kernel)
theorem klX11_371 : Cond.constantLong RX11 371 (-1000000000) ∈ lw_use := ax_inT 7 79 (by decide +kernel)
theorem klX11_373 : Cond.constantLong RX11 373 (1000000000) ∈ lw_use := ax_inT 7 80 (by decide +kernel)
theorem klX11_426 : Cond.constantLong RX11 426 (10) ∈ lw_use := ax_inT 7 175 (by decide +kernel)
theorem klX11_428 : Cond.constantLong RX11 428 (12) ∈ lw_use := ax_inT 7 176 (by decide +kernel)

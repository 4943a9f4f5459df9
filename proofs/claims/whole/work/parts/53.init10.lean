/-! ===== the class is made ===== -/
def tX10_0 : ax_Tb := [(18, 0, [])]
def iX10_0 : List (Nat → Int32) := [fun _ => 0]
def tX10_1 : ax_Tb := tX10_0 ++ ax_shf (List.length tX10_0) tX7
def iX10_1 : List (Nat → Int32) := iX10_0 ++ iX7
def tX10_2 : ax_Tb := ax_addr tX10_1 0 0 (List.length tX10_0)
def tX10_3 : ax_Tb := tX10_2 ++ ax_shf (List.length tX10_2) tX7
def iX10_2 : List (Nat → Int32) := iX10_1 ++ iX7
def tX10_4 : ax_Tb := ax_addr tX10_3 0 1 (List.length tX10_2)
def iX10_3 : List (Nat → Int32) := List.modify iX10_2 0 (fun f i => if i = 2 then nI 0 else f i)
def tX10_5 : ax_Tb := tX10_4 ++ ax_shf (List.length tX10_4) tX1
def iX10_4 : List (Nat → Int32) := iX10_3 ++ iX1
def tX10_6 : ax_Tb := ax_addr tX10_5 0 3 (List.length tX10_4)
def tX10_7 : ax_Tb := tX10_6 ++ ax_shf (List.length tX10_6) tX9
def iX10_5 : List (Nat → Int32) := iX10_4 ++ iX9
def tX10_8 : ax_Tb := ax_addr tX10_7 0 4 (List.length tX10_6)
def tX10_9 : ax_Tb := tX10_8 ++ ax_shf (List.length tX10_8) tX0
def iX10_6 : List (Nat → Int32) := iX10_5 ++ iX0
def tX10_10 : ax_Tb := ax_addr tX10_9 0 5 (List.length tX10_8)
def tX10_11 : ax_Tb := tX10_10 ++ [(5, 4, [])]
def iX10_7 : List (Nat → Int32) := iX10_6 ++ [fun _ => 0]
def tX10_12 : ax_Tb := ax_addr tX10_11 0 6 (List.length tX10_10)
def tX10_13 : ax_Tb := tX10_12 ++ [(6, 4, [])]
def iX10_8 : List (Nat → Int32) := iX10_7 ++ [fun _ => 0]
def tX10_14 : ax_Tb := ax_addr tX10_13 0 7 (List.length tX10_12)
def tX10_15 : ax_Tb := tX10_14 ++ ax_shf (List.length tX10_14) tX3
def iX10_9 : List (Nat → Int32) := iX10_8 ++ iX3
def tX10_16 : ax_Tb := ax_addr tX10_15 0 8 (List.length tX10_14)
def tX10_17 : ax_Tb := tX10_16 ++ ax_shf (List.length tX10_16) tX3
def iX10_10 : List (Nat → Int32) := iX10_9 ++ iX3
def tX10_18 : ax_Tb := ax_addr tX10_17 0 9 (List.length tX10_16)
def tX10_19 : ax_Tb := tX10_18 ++ ax_shf (List.length tX10_18) tX2
def iX10_11 : List (Nat → Int32) := iX10_10 ++ iX2
def tX10_20 : ax_Tb := ax_addr tX10_19 0 10 (List.length tX10_18)
def tX10_21 : ax_Tb := tX10_20 ++ ax_shf (List.length tX10_20) tX2
def iX10_12 : List (Nat → Int32) := iX10_11 ++ iX2
def tX10_22 : ax_Tb := ax_addr tX10_21 0 11 (List.length tX10_20)
def tX10_23 : ax_Tb := tX10_22 ++ ax_shf (List.length tX10_22) tX4
def iX10_13 : List (Nat → Int32) := iX10_12 ++ iX4
def tX10_24 : ax_Tb := ax_addr tX10_23 0 12 (List.length tX10_22)
def tX10_25 : ax_Tb := tX10_24 ++ ax_shf (List.length tX10_24) tX4
def iX10_14 : List (Nat → Int32) := iX10_13 ++ iX4
def tX10_26 : ax_Tb := ax_addr tX10_25 0 13 (List.length tX10_24)
def tX10_27 : ax_Tb := tX10_26 ++ ax_shf (List.length tX10_26) tX4
def iX10_15 : List (Nat → Int32) := iX10_14 ++ iX4
def tX10_28 : ax_Tb := ax_addr tX10_27 0 14 (List.length tX10_26)
def tX10_29 : ax_Tb := tX10_28 ++ [(2, 6, [])]
def iX10_16 : List (Nat → Int32) := iX10_15 ++ [fun _ => 0]
def tX10_30 : ax_Tb := ax_addr tX10_29 0 15 (List.length tX10_28)
def tX10_31 : ax_Tb := tX10_30 ++ [(2, 6, [])]
def iX10_17 : List (Nat → Int32) := iX10_16 ++ [fun _ => 0]
def tX10_32 : ax_Tb := ax_addr tX10_31 0 16 (List.length tX10_30)
def tX10_33 : ax_Tb := tX10_32 ++ ax_shf (List.length tX10_32) tX5
def iX10_18 : List (Nat → Int32) := iX10_17 ++ iX5
def tX10_34 : ax_Tb := ax_addr tX10_33 481 0 (List.length tX10_32)
def tX10_35 : ax_Tb := tX10_34 ++ ax_shf (List.length tX10_34) tX5
def iX10_19 : List (Nat → Int32) := iX10_18 ++ iX5
def tX10_36 : ax_Tb := ax_addr tX10_35 481 1 (List.length tX10_34)
def tX10_37 : ax_Tb := tX10_36 ++ ax_shf (List.length tX10_36) tX5
def iX10_20 : List (Nat → Int32) := iX10_19 ++ iX5
def tX10_38 : ax_Tb := ax_addr tX10_37 481 2 (List.length tX10_36)
def tX10_39 : ax_Tb := tX10_38 ++ ax_shf (List.length tX10_38) tX5
def iX10_21 : List (Nat → Int32) := iX10_20 ++ iX5
def tX10_40 : ax_Tb := ax_addr tX10_39 481 3 (List.length tX10_38)
def tX10_41 : ax_Tb := tX10_40 ++ ax_shf (List.length tX10_40) tX6
def iX10_22 : List (Nat → Int32) := iX10_21 ++ iX6
def tX10_42 : ax_Tb := ax_addr tX10_41 482 0 (List.length tX10_40)
def tX10_43 : ax_Tb := tX10_42 ++ ax_shf (List.length tX10_42) tX6
def iX10_23 : List (Nat → Int32) := iX10_22 ++ iX6
def tX10_44 : ax_Tb := ax_addr tX10_43 482 1 (List.length tX10_42)
def tX10_45 : ax_Tb := tX10_44 ++ ax_shf (List.length tX10_44) tX6
def iX10_24 : List (Nat → Int32) := iX10_23 ++ iX6
def tX10_46 : ax_Tb := ax_addr tX10_45 482 2 (List.length tX10_44)
def tX10_47 : ax_Tb := tX10_46 ++ ax_shf (List.length tX10_46) tX6
def iX10_25 : List (Nat → Int32) := iX10_24 ++ iX6
def tX10_48 : ax_Tb := ax_addr tX10_47 482 3 (List.length tX10_46)
abbrev tX10 : ax_Tb := tX10_48
abbrev iX10 : List (Nat → Int32) := iX10_25
set_option maxHeartbeats 4000000 in
set_option maxRecDepth 20000 in
/-- the class's constructor -/
theorem k_X10_init (l : Launch) (D : va_G) (T : Nat → ClassId) (o d : Nat) (G : ax_G) (I : ax_I) (L : ax_L) (a : Nat) (ht : ax_top G = a + 1) (hK : ax_K G a = 8 + 10) (hN : ax_N G a = 0) (hI : I a = fun _ => 0) (hL : L a = fun _ => 0) (hd : 5 ≤ d) : ax_Con l D T o yX10_init cX10_init 2 none d 638 10137 [.ref a] G I L (fun v G' I' L' => v = none ∧ ax_Bt G I L a (ax_used G + 10137) tX10 iX10 G' I' L') := by
  refine ax_enter (by decide +kernel) (Nat.le_of_ble_eq_true rfl) ?_
  intro p_ e_ s_ m_ args_ below_ meth_ c_ C _
  refine x_lvs (lv' := [(0, .ref a)]) rfl ?_
  have hB0 : ax_Bt G I L a (ax_used G + 0) tX10_0 iX10_0 G I L := ax_Bt.start ht hK hN hI hL
  have hL0 : List.length tX10_0 = 1 := by decide +kernel
  have hT0 : ax_top G = a + 1 := by have h := hB0.1; rw [hL0] at h; exact h
  have hU0 : ax_used G = ax_used G + 0 := hB0.2.1
  clear hL0
  refine x_aload_n C (dk ddX10_init 0 rfl) rfl ?_
  refine x_obj C (ax_inT 1 21 (by decide +kernel)) (ax_inT 1 22 (by decide +kernel)) (ax_inC 1 23 rfl) ⟨by show 1 ≤ d; omega, by show 40 ≤ 40 * d; omega⟩ (Nat.le_of_ble_eq_true rfl) (dk ddX10_init 1 rfl) ?_
  refine x_aload_n C (dk ddX10_init 2 rfl) rfl ?_
  refine x_new C (ci := 7) (q0 := (RX7, TX7, 14)) (tyf := tyX7) rfl cw7 tyX7_ok dfX7 (ax_inT 1 24 (by decide +kernel)) (ax_inT 1 25 (by decide +kernel)) miX7 (by have h := hT0; show ax_top G + 1 ≤ ax_top G + 638; omega) (by have h := hU0; show ax_used G + 14 ≤ ax_used G + 10137; omega) (dk ddX10_init 3 rfl) ?_
  refine x_dup C (dk ddX10_init 4 rfl) rfl ?_
  refine x_callI C (As := []) (k_X7_init l D T o (d - 1) (ax_new G 15 0 14) (ax_z I (ax_top G) 0) (ax_z L (ax_top G) 0) (ax_top G) rfl (ax_new_K G 15 0 14) (ax_new_N G 15 0 14) (ax_z_eq _ _ _) (ax_z_eq _ _ _) (by omega)) mlX10_9 ⟨by show d - 1 + 1 ≤ d; omega, by show 40 * (d - 1 + 1) ≤ 40 * d; omega⟩ ⟨by have h := hT0; show ax_top G + 1 + 13 ≤ ax_top G + 638; omega, by have h := hU0; show ax_used G + 14 + 352 ≤ ax_used G + 10137; omega⟩ rfl (Nat.le_of_ble_eq_true rfl) (dk ddX10_init 5 rfl) ?_
  rintro v_ G0p I0p L0p ⟨rfl, hp⟩
  have hq := hB0.obj hp
  clear hp
  have hB1 : ax_Bt G I L a (ax_used G + 366) tX10_1 iX10_1 G0p I0p L0p := hq
  have hL1 : List.length tX10_1 = 15 := by decide +kernel
  have hT1 : ax_top G0p = a + 15 := by have h := hB1.1; rw [hL1] at h; exact h
  have hU1 : ax_used G0p = ax_used G + 366 := hB1.2.1
  clear hL1
  refine x_putrF C flX10_10 fw10 rfl rfl rfl rfl (by have h := hT1; show a < ax_top G0p; omega) (show ax_K G0p a = 8 + 10 from (hB1.2.2.1 0 (18, 0, []) (by decide +kernel)).1) (fun _ => rfl) (fun _ => rfl) (dk ddX10_init 6 rfl) ?_
  have h_ := hB1.ref (j := 0) (k := 0) (b := List.length tX10_0) (x := (18, 0, [])) (by decide +kernel) (by decide +kernel)
  rw [← hB0.1] at h_
  have hB2 : ax_Bt G I L a (ax_used G + 366) tX10_2 iX10_1 (ax_gR G0p a 0 (some (ax_top G))) I0p L0p := h_
  generalize ax_gR G0p a 0 (some (ax_top G)) = G2 at hB2 ⊢
  have hL2 : List.length tX10_2 = 15 := by decide +kernel
  have hT2 : ax_top G2 = a + 15 := by have h := hB2.1; rw [hL2] at h; exact h
  have hU2 : ax_used G2 = ax_used G + 366 := hB2.2.1
  clear hL2
  clear h_ hq
  clear hB0 hT0 hU0 hB1 hT1 hU1
  refine x_aload_n C (dk ddX10_init 7 rfl) rfl ?_
  refine x_new C (ci := 7) (q0 := (RX7, TX7, 14)) (tyf := tyX7) rfl cw7 tyX7_ok dfX7 (ax_inT 1 24 (by decide +kernel)) (ax_inT 1 25 (by decide +kernel)) miX7 (by have h := hT2; show ax_top G2 + 1 ≤ ax_top G + 638; omega) (by have h := hU2; show ax_used G2 + 14 ≤ ax_used G + 10137; omega) (dk ddX10_init 8 rfl) ?_
  refine x_dup C (dk ddX10_init 9 rfl) rfl ?_
  refine x_callI C (As := []) (k_X7_init l D T o (d - 1) (ax_new G2 15 0 14) (ax_z I0p (ax_top G2) 0) (ax_z L0p (ax_top G2) 0) (ax_top G2) rfl (ax_new_K G2 15 0 14) (ax_new_N G2 15 0 14) (ax_z_eq _ _ _) (ax_z_eq _ _ _) (by omega)) mlX10_9 ⟨by show d - 1 + 1 ≤ d; omega, by show 40 * (d - 1 + 1) ≤ 40 * d; omega⟩ ⟨by have h := hT2; show ax_top G2 + 1 + 13 ≤ ax_top G + 638; omega, by have h := hU2; show ax_used G2 + 14 + 352 ≤ ax_used G + 10137; omega⟩ rfl (Nat.le_of_ble_eq_true rfl) (dk ddX10_init 10 rfl) ?_
  rintro v_ G2p I2p L2p ⟨rfl, hp⟩
  have hq := hB2.obj hp
  clear hp
  have hB3 : ax_Bt G I L a (ax_used G + 732) tX10_3 iX10_2 G2p I2p L2p := hq
  have hL3 : List.length tX10_3 = 29 := by decide +kernel
  have hT3 : ax_top G2p = a + 29 := by have h := hB3.1; rw [hL3] at h; exact h
  have hU3 : ax_used G2p = ax_used G + 732 := hB3.2.1
  clear hL3
  refine x_putrF C flX10_16 fw10 rfl rfl rfl rfl (by have h := hT3; show a < ax_top G2p; omega) (show ax_K G2p a = 8 + 10 from (hB3.2.2.1 0 (18, 0, [(0, 1)]) (by decide +kernel)).1) (fun _ => rfl) (fun _ => rfl) (dk ddX10_init 11 rfl) ?_
  have h_ := hB3.ref (j := 0) (k := 1) (b := List.length tX10_2) (x := (18, 0, [(0, 1)])) (by decide +kernel) (by decide +kernel)
  rw [← hB2.1] at h_
  have hB4 : ax_Bt G I L a (ax_used G + 732) tX10_4 iX10_2 (ax_gR G2p a 1 (some (ax_top G2))) I2p L2p := h_
  generalize ax_gR G2p a 1 (some (ax_top G2)) = G4 at hB4 ⊢
  have hL4 : List.length tX10_4 = 29 := by decide +kernel
  have hT4 : ax_top G4 = a + 29 := by have h := hB4.1; rw [hL4] at h; exact h
  have hU4 : ax_used G4 = ax_used G + 732 := hB4.2.1
  clear hL4
  clear h_ hq
  clear hB2 hT2 hU2 hB3 hT3 hU3
  refine x_aload_n C (dk ddX10_init 12 rfl) rfl ?_
  refine x_iconst C (v := nI 0) (dk ddX10_init 13 rfl) (by decide) ?_
  refine x_puti C flX10_19 fw10 rfl rfl (by have h := hT4; show a < ax_top G4; omega) (show ax_K G4 a = 8 + 10 from (hB4.2.2.1 0 (18, 0, [(1, 15), (0, 1)]) (by decide +kernel)).1) rfl rfl (dk ddX10_init 14 rfl) ?_
  have hB5 : ax_Bt G I L a (ax_used G + 732) tX10_4 iX10_3 G4 (ax_u I2p a 2 (nI 0)) L2p := hB4.int (j := 0) (k := 2) (v := (nI 0)) (by decide +kernel)
  generalize ax_u I2p a 2 (nI 0) = I5 at hB5 ⊢
  have hL5 : List.length tX10_4 = 29 := by decide +kernel
  have hT5 : ax_top G4 = a + 29 := by have h := hB5.1; rw [hL5] at h; exact h
  have hU5 : ax_used G4 = ax_used G + 732 := hB5.2.1
  clear hL5
  clear hB4 hT4 hU4
  refine x_aload_n C (dk ddX10_init 15 rfl) rfl ?_
  refine x_new C (ci := 1) (q0 := (RX1, TX1, 3)) (tyf := tyX1) rfl cw1 tyX1_ok dfX1 (ax_inT 1 94 (by decide +kernel)) (ax_inT 1 95 (by decide +kernel)) miX1 (by have h := hT5; show ax_top G4 + 1 ≤ ax_top G + 638; omega) (by have h := hU5; show ax_used G4 + 3 ≤ ax_used G + 10137; omega) (dk ddX10_init 16 rfl) ?_
  refine x_dup C (dk ddX10_init 17 rfl) rfl ?_
  refine x_callI C (As := []) (k_X1_init l D T o (d - 1) (ax_new G4 9 0 3) (ax_z I5 (ax_top G4) 0) (ax_z L2p (ax_top G4) 0) (ax_top G4) rfl (ax_new_K G4 9 0 3) (ax_new_N G4 9 0 3) (ax_z_eq _ _ _) (ax_z_eq _ _ _) (by omega)) mlX10_25 ⟨by show d - 1 + 1 ≤ d; omega, by show 40 * (d - 1 + 1) ≤ 40 * d; omega⟩ ⟨by have h := hT5; show ax_top G4 + 1 + 281 ≤ ax_top G + 638; omega, by have h := hU5; show ax_used G4 + 3 + 7340 ≤ ax_used G + 10137; omega⟩ rfl (Nat.le_of_ble_eq_true rfl) (dk ddX10_init 18 rfl) ?_
  rintro v_ G5p I5p L5p ⟨rfl, hp⟩
  have hq := hB5.obj hp
  clear hp
  have hB6 : ax_Bt G I L a (ax_used G + 8075) tX10_5 iX10_4 G5p I5p L5p := hq
  have hL6 : List.length tX10_5 = 311 := by decide +kernel
  have hT6 : ax_top G5p = a + 311 := by have h := hB6.1; rw [hL6] at h; exact h
  have hU6 : ax_used G5p = ax_used G + 8075 := hB6.2.1
  clear hL6
  refine x_putrF C flX10_26 fw10 rfl rfl rfl rfl (by have h := hT6; show a < ax_top G5p; omega) (show ax_K G5p a = 8 + 10 from (hB6.2.2.1 0 (18, 0, [(1, 15), (0, 1)]) (by decide +kernel)).1) (fun _ => rfl) (fun _ => rfl) (dk ddX10_init 19 rfl) ?_
  have h_ := hB6.ref (j := 0) (k := 3) (b := List.length tX10_4) (x := (18, 0, [(1, 15), (0, 1)])) (by decide +kernel) (by decide +kernel)
  rw [← hB5.1] at h_
  have hB7 : ax_Bt G I L a (ax_used G + 8075) tX10_6 iX10_4 (ax_gR G5p a 3 (some (ax_top G4))) I5p L5p := h_
  generalize ax_gR G5p a 3 (some (ax_top G4)) = G7 at hB7 ⊢
  have hL7 : List.length tX10_6 = 311 := by decide +kernel
  have hT7 : ax_top G7 = a + 311 := by have h := hB7.1; rw [hL7] at h; exact h
  have hU7 : ax_used G7 = ax_used G + 8075 := hB7.2.1
  clear hL7
  clear h_ hq
  clear hB5 hT5 hU5 hB6 hT6 hU6
  refine x_aload_n C (dk ddX10_init 20 rfl) rfl ?_
  refine x_new C (ci := 9) (q0 := (RX9, TX9, 10)) (tyf := tyX9) rfl cw9 tyX9_ok dfX9 (ax_inT 1 114 (by decide +kernel)) (ax_inT 1 115 (by decide +kernel)) miX9 (by have h := hT7; show ax_top G7 + 1 ≤ ax_top G + 638; omega) (by have h := hU7; show ax_used G7 + 10 ≤ ax_used G + 10137; omega) (dk ddX10_init 21 rfl) ?_
  refine x_dup C (dk ddX10_init 22 rfl) rfl ?_
  refine x_callI C (As := []) (k_X9_init l D T o (d - 1) (ax_new G7 17 0 10) (ax_z I5p (ax_top G7) 0) (ax_z L5p (ax_top G7) 0) (ax_top G7) rfl (ax_new_K G7 17 0 10) (ax_new_N G7 17 0 10) (ax_z_eq _ _ _) (ax_z_eq _ _ _) (by omega)) mlX10_32 ⟨by show d - 1 + 1 ≤ d; omega, by show 40 * (d - 1 + 1) ≤ 40 * d; omega⟩ ⟨by have h := hT7; show ax_top G7 + 1 + 49 ≤ ax_top G + 638; omega, by have h := hU7; show ax_used G7 + 10 + 355 ≤ ax_used G + 10137; omega⟩ rfl (Nat.le_of_ble_eq_true rfl) (dk ddX10_init 23 rfl) ?_
  rintro v_ G7p I7p L7p ⟨rfl, hp⟩
  have hq := hB7.obj hp
  clear hp
  have hB8 : ax_Bt G I L a (ax_used G + 8440) tX10_7 iX10_5 G7p I7p L7p := hq
  have hL8 : List.length tX10_7 = 361 := by decide +kernel
  have hT8 : ax_top G7p = a + 361 := by have h := hB8.1; rw [hL8] at h; exact h
  have hU8 : ax_used G7p = ax_used G + 8440 := hB8.2.1
  clear hL8
  refine x_putrF C flX10_33 fw10 rfl rfl rfl rfl (by have h := hT8; show a < ax_top G7p; omega) (show ax_K G7p a = 8 + 10 from (hB8.2.2.1 0 (18, 0, [(3, 29), (1, 15), (0, 1)]) (by decide +kernel)).1) (fun _ => rfl) (fun _ => rfl) (dk ddX10_init 24 rfl) ?_
  have h_ := hB8.ref (j := 0) (k := 4) (b := List.length tX10_6) (x := (18, 0, [(3, 29), (1, 15), (0, 1)])) (by decide +kernel) (by decide +kernel)
  rw [← hB7.1] at h_
  have hB9 : ax_Bt G I L a (ax_used G + 8440) tX10_8 iX10_5 (ax_gR G7p a 4 (some (ax_top G7))) I7p L7p := h_
  generalize ax_gR G7p a 4 (some (ax_top G7)) = G9 at hB9 ⊢
  have hL9 : List.length tX10_8 = 361 := by decide +kernel
  have hT9 : ax_top G9 = a + 361 := by have h := hB9.1; rw [hL9] at h; exact h
  have hU9 : ax_used G9 = ax_used G + 8440 := hB9.2.1
  clear hL9
  clear h_ hq
  clear hB7 hT7 hU7 hB8 hT8 hU8
  refine x_aload_n C (dk ddX10_init 25 rfl) rfl ?_
  refine x_new C (ci := 0) (q0 := (RX0, TX0, 7)) (tyf := tyX0) rfl cw0 tyX0_ok dfX0 (ax_inT 1 180 (by decide +kernel)) (ax_inT 1 181 (by decide +kernel)) miX0 (by have h := hT9; show ax_top G9 + 1 ≤ ax_top G + 638; omega) (by have h := hU9; show ax_used G9 + 7 ≤ ax_used G + 10137; omega) (dk ddX10_init 26 rfl) ?_
  refine x_dup C (dk ddX10_init 27 rfl) rfl ?_
  refine x_callI C (As := []) (k_X0_init l D T o (d - 1) (ax_new G9 8 0 7) (ax_z I7p (ax_top G9) 0) (ax_z L7p (ax_top G9) 0) (ax_top G9) rfl (ax_new_K G9 8 0 7) (ax_new_N G9 8 0 7) (ax_z_eq _ _ _) (ax_z_eq _ _ _) (by omega)) mlX10_39 ⟨by show d - 1 + 1 ≤ d; omega, by show 40 * (d - 1 + 1) ≤ 40 * d; omega⟩ ⟨by have h := hT9; show ax_top G9 + 1 + 119 ≤ ax_top G + 638; omega, by have h := hU9; show ax_used G9 + 7 + 683 ≤ ax_used G + 10137; omega⟩ rfl (Nat.le_of_ble_eq_true rfl) (dk ddX10_init 28 rfl) ?_
  rintro v_ G9p I9p L9p ⟨rfl, hp⟩
  have hq := hB9.obj hp
  clear hp
  have hB10 : ax_Bt G I L a (ax_used G + 9130) tX10_9 iX10_6 G9p I9p L9p := hq
  have hL10 : List.length tX10_9 = 481 := by decide +kernel
  have hT10 : ax_top G9p = a + 481 := by have h := hB10.1; rw [hL10] at h; exact h
  have hU10 : ax_used G9p = ax_used G + 9130 := hB10.2.1
  clear hL10
  refine x_putrF C flX10_40 fw10 rfl rfl rfl rfl (by have h := hT10; show a < ax_top G9p; omega) (show ax_K G9p a = 8 + 10 from (hB10.2.2.1 0 (18, 0, [(4, 311), (3, 29), (1, 15), (0, 1)]) (by decide +kernel)).1) (fun _ => rfl) (fun _ => rfl) (dk ddX10_init 29 rfl) ?_
  have h_ := hB10.ref (j := 0) (k := 5) (b := List.length tX10_8) (x := (18, 0, [(4, 311), (3, 29), (1, 15), (0, 1)])) (by decide +kernel) (by decide +kernel)
  rw [← hB9.1] at h_
  have hB11 : ax_Bt G I L a (ax_used G + 9130) tX10_10 iX10_6 (ax_gR G9p a 5 (some (ax_top G9))) I9p L9p := h_
  generalize ax_gR G9p a 5 (some (ax_top G9)) = G11 at hB11 ⊢
  have hL11 : List.length tX10_10 = 481 := by decide +kernel
  have hT11 : ax_top G11 = a + 481 := by have h := hB11.1; rw [hL11] at h; exact h
  have hU11 : ax_used G11 = ax_used G + 9130 := hB11.2.1
  clear hL11
  clear h_ hq
  clear hB9 hT9 hU9 hB10 hT10 hU10
  refine x_aload_n C (dk ddX10_init 30 rfl) rfl ?_
  refine x_iconst C (v := nI 4) (dk ddX10_init 31 rfl) (by decide) ?_
  refine x_newq C (t := 5) (n := 4) (cn := RX5) rfl (by decide) (by decide) (ax_inT 2 27 (by decide +kernel)) (ax_inT 2 28 (by decide +kernel)) (by decide) (by have h := hT11; show ax_top G11 + 1 ≤ ax_top G + 638; omega) (by have h := hU11; show ax_used G11 + 4 ≤ ax_used G + 10137; omega) (dk ddX10_init 32 rfl) ?_
  have hN_ := hB11.new (k := 5) (n := 4) (sl := 4)
  have hB12 : ax_Bt G I L a (ax_used G + 9134) tX10_11 iX10_7 (ax_new G11 5 4 4) (ax_z I9p (ax_top G11) 0) (ax_z L9p (ax_top G11) 0) := hN_
  generalize ax_new G11 5 4 4 = G12 at hB12 ⊢
  generalize ax_z I9p (ax_top G11) 0 = I12 at hB12 ⊢
  generalize ax_z L9p (ax_top G11) 0 = L12 at hB12 ⊢
  have hL12 : List.length tX10_11 = 482 := by decide +kernel
  have hT12 : ax_top G12 = a + 482 := by have h := hB12.1; rw [hL12] at h; exact h
  have hU12 : ax_used G12 = ax_used G + 9134 := hB12.2.1
  clear hL12
  clear hN_
  refine x_putrF C flX10_46 fw10 rfl rfl rfl rfl (by have h := hT12; show a < ax_top G12; omega) (show ax_K G12 a = 8 + 10 from (hB12.2.2.1 0 (18, 0, [(5, 361), (4, 311), (3, 29), (1, 15), (0, 1)]) (by decide +kernel)).1) (fun _ => rfl) (fun _ => rfl) (dk ddX10_init 33 rfl) ?_
  have h_ := hB12.ref (j := 0) (k := 6) (b := List.length tX10_10) (x := (18, 0, [(5, 361), (4, 311), (3, 29), (1, 15), (0, 1)])) (by decide +kernel) (by decide +kernel)
  rw [← hB11.1] at h_
  have hB13 : ax_Bt G I L a (ax_used G + 9134) tX10_12 iX10_7 (ax_gR G12 a 6 (some (ax_top G11))) I12 L12 := h_
  generalize ax_gR G12 a 6 (some (ax_top G11)) = G13 at hB13 ⊢
  have hL13 : List.length tX10_12 = 482 := by decide +kernel
  have hT13 : ax_top G13 = a + 482 := by have h := hB13.1; rw [hL13] at h; exact h
  have hU13 : ax_used G13 = ax_used G + 9134 := hB13.2.1
  clear hL13
  clear h_
  clear hB11 hT11 hU11 hB12 hT12 hU12
  refine x_aload_n C (dk ddX10_init 34 rfl) rfl ?_
  refine x_iconst C (v := nI 4) (dk ddX10_init 35 rfl) (by decide) ?_
  refine x_newq C (t := 6) (n := 4) (cn := RX6) rfl (by decide) (by decide) (ax_inT 2 29 (by decide +kernel)) (ax_inT 2 30 (by decide +kernel)) (by decide) (by have h := hT13; show ax_top G13 + 1 ≤ ax_top G + 638; omega) (by have h := hU13; show ax_used G13 + 4 ≤ ax_used G + 10137; omega) (dk ddX10_init 36 rfl) ?_
  have hN_ := hB13.new (k := 6) (n := 4) (sl := 4)
  have hB14 : ax_Bt G I L a (ax_used G + 9138) tX10_13 iX10_8 (ax_new G13 6 4 4) (ax_z I12 (ax_top G13) 0) (ax_z L12 (ax_top G13) 0) := hN_
  generalize ax_new G13 6 4 4 = G14 at hB14 ⊢
  generalize ax_z I12 (ax_top G13) 0 = I14 at hB14 ⊢
  generalize ax_z L12 (ax_top G13) 0 = L14 at hB14 ⊢
  have hL14 : List.length tX10_13 = 483 := by decide +kernel
  have hT14 : ax_top G14 = a + 483 := by have h := hB14.1; rw [hL14] at h; exact h
  have hU14 : ax_used G14 = ax_used G + 9138 := hB14.2.1
  clear hL14
  clear hN_
  refine x_putrF C flX10_52 fw10 rfl rfl rfl rfl (by have h := hT14; show a < ax_top G14; omega) (show ax_K G14 a = 8 + 10 from (hB14.2.2.1 0 (18, 0, [(6, 481), (5, 361), (4, 311), (3, 29), (1, 15), (0, 1)]) (by decide +kernel)).1) (fun _ => rfl) (fun _ => rfl) (dk ddX10_init 37 rfl) ?_
  have h_ := hB14.ref (j := 0) (k := 7) (b := List.length tX10_12) (x := (18, 0, [(6, 481), (5, 361), (4, 311), (3, 29), (1, 15), (0, 1)])) (by decide +kernel) (by decide +kernel)
  rw [← hB13.1] at h_
  have hB15 : ax_Bt G I L a (ax_used G + 9138) tX10_14 iX10_8 (ax_gR G14 a 7 (some (ax_top G13))) I14 L14 := h_
  generalize ax_gR G14 a 7 (some (ax_top G13)) = G15 at hB15 ⊢
  have hL15 : List.length tX10_14 = 483 := by decide +kernel
  have hT15 : ax_top G15 = a + 483 := by have h := hB15.1; rw [hL15] at h; exact h
  have hU15 : ax_used G15 = ax_used G + 9138 := hB15.2.1
  clear hL15
  clear h_
  clear hB13 hT13 hU13 hB14 hT14 hU14
  refine x_aload_n C (dk ddX10_init 38 rfl) rfl ?_
  refine x_new C (ci := 3) (q0 := (RX3, TX3, 8)) (tyf := tyX3) rfl cw3 tyX3_ok dfX3 (ax_inT 2 31 (by decide +kernel)) (ax_inT 1 187 (by decide +kernel)) miX3 (by have h := hT15; show ax_top G15 + 1 ≤ ax_top G + 638; omega) (by have h := hU15; show ax_used G15 + 8 ≤ ax_used G + 10137; omega) (dk ddX10_init 39 rfl) ?_
  refine x_dup C (dk ddX10_init 40 rfl) rfl ?_
  refine x_callI C (As := []) (k_X3_init l D T o (d - 1) (ax_new G15 11 0 8) (ax_z I14 (ax_top G15) 0) (ax_z L14 (ax_top G15) 0) (ax_top G15) rfl (ax_new_K G15 11 0 8) (ax_new_N G15 11 0 8) (ax_z_eq _ _ _) (ax_z_eq _ _ _) (by omega)) mlX10_58 ⟨by show d - 1 + 1 ≤ d; omega, by show 40 * (d - 1 + 1) ≤ 40 * d; omega⟩ ⟨by have h := hT15; show ax_top G15 + 1 + 56 ≤ ax_top G + 638; omega, by have h := hU15; show ax_used G15 + 8 + 318 ≤ ax_used G + 10137; omega⟩ rfl (Nat.le_of_ble_eq_true rfl) (dk ddX10_init 41 rfl) ?_
  rintro v_ G15p I15p L15p ⟨rfl, hp⟩
  have hq := hB15.obj hp
  clear hp
  have hB16 : ax_Bt G I L a (ax_used G + 9464) tX10_15 iX10_9 G15p I15p L15p := hq
  have hL16 : List.length tX10_15 = 540 := by decide +kernel
  have hT16 : ax_top G15p = a + 540 := by have h := hB16.1; rw [hL16] at h; exact h
  have hU16 : ax_used G15p = ax_used G + 9464 := hB16.2.1
  clear hL16
  refine x_putrF C flX10_59 fw10 rfl rfl rfl rfl (by have h := hT16; show a < ax_top G15p; omega) (show ax_K G15p a = 8 + 10 from (hB16.2.2.1 0 (18, 0, [(7, 482), (6, 481), (5, 361), (4, 311), (3, 29), (1, 15), (0, 1)]) (by decide +kernel)).1) (fun _ => rfl) (fun _ => rfl) (dk ddX10_init 42 rfl) ?_
  have h_ := hB16.ref (j := 0) (k := 8) (b := List.length tX10_14) (x := (18, 0, [(7, 482), (6, 481), (5, 361), (4, 311), (3, 29), (1, 15), (0, 1)])) (by decide +kernel) (by decide +kernel)
  rw [← hB15.1] at h_
  have hB17 : ax_Bt G I L a (ax_used G + 9464) tX10_16 iX10_9 (ax_gR G15p a 8 (some (ax_top G15))) I15p L15p := h_
  generalize ax_gR G15p a 8 (some (ax_top G15)) = G17 at hB17 ⊢
  have hL17 : List.length tX10_16 = 540 := by decide +kernel
  have hT17 : ax_top G17 = a + 540 := by have h := hB17.1; rw [hL17] at h; exact h
  have hU17 : ax_used G17 = ax_used G + 9464 := hB17.2.1
  clear hL17
  clear h_ hq
  clear hB15 hT15 hU15 hB16 hT16 hU16
  refine x_aload_n C (dk ddX10_init 43 rfl) rfl ?_
  refine x_new C (ci := 3) (q0 := (RX3, TX3, 8)) (tyf := tyX3) rfl cw3 tyX3_ok dfX3 (ax_inT 2 31 (by decide +kernel)) (ax_inT 1 187 (by decide +kernel)) miX3 (by have h := hT17; show ax_top G17 + 1 ≤ ax_top G + 638; omega) (by have h := hU17; show ax_used G17 + 8 ≤ ax_used G + 10137; omega) (dk ddX10_init 44 rfl) ?_
  refine x_dup C (dk ddX10_init 45 rfl) rfl ?_
  refine x_callI C (As := []) (k_X3_init l D T o (d - 1) (ax_new G17 11 0 8) (ax_z I15p (ax_top G17) 0) (ax_z L15p (ax_top G17) 0) (ax_top G17) rfl (ax_new_K G17 11 0 8) (ax_new_N G17 11 0 8) (ax_z_eq _ _ _) (ax_z_eq _ _ _) (by omega)) mlX10_58 ⟨by show d - 1 + 1 ≤ d; omega, by show 40 * (d - 1 + 1) ≤ 40 * d; omega⟩ ⟨by have h := hT17; show ax_top G17 + 1 + 56 ≤ ax_top G + 638; omega, by have h := hU17; show ax_used G17 + 8 + 318 ≤ ax_used G + 10137; omega⟩ rfl (Nat.le_of_ble_eq_true rfl) (dk ddX10_init 46 rfl) ?_
  rintro v_ G17p I17p L17p ⟨rfl, hp⟩
  have hq := hB17.obj hp
  clear hp
  have hB18 : ax_Bt G I L a (ax_used G + 9790) tX10_17 iX10_10 G17p I17p L17p := hq
  have hL18 : List.length tX10_17 = 597 := by decide +kernel
  have hT18 : ax_top G17p = a + 597 := by have h := hB18.1; rw [hL18] at h; exact h
  have hU18 : ax_used G17p = ax_used G + 9790 := hB18.2.1
  clear hL18
  refine x_putrF C flX10_63 fw10 rfl rfl rfl rfl (by have h := hT18; show a < ax_top G17p; omega) (show ax_K G17p a = 8 + 10 from (hB18.2.2.1 0 (18, 0, [(8, 483), (7, 482), (6, 481), (5, 361), (4, 311), (3, 29), (1, 15), (0, 1)]) (by decide +kernel)).1) (fun _ => rfl) (fun _ => rfl) (dk ddX10_init 47 rfl) ?_
  have h_ := hB18.ref (j := 0) (k := 9) (b := List.length tX10_16) (x := (18, 0, [(8, 483), (7, 482), (6, 481), (5, 361), (4, 311), (3, 29), (1, 15), (0, 1)])) (by decide +kernel) (by decide +kernel)
  rw [← hB17.1] at h_
  have hB19 : ax_Bt G I L a (ax_used G + 9790) tX10_18 iX10_10 (ax_gR G17p a 9 (some (ax_top G17))) I17p L17p := h_
  generalize ax_gR G17p a 9 (some (ax_top G17)) = G19 at hB19 ⊢
  have hL19 : List.length tX10_18 = 597 := by decide +kernel
  have hT19 : ax_top G19 = a + 597 := by have h := hB19.1; rw [hL19] at h; exact h
  have hU19 : ax_used G19 = ax_used G + 9790 := hB19.2.1
  clear hL19
  clear h_ hq
  clear hB17 hT17 hU17 hB18 hT18 hU18
  refine x_aload_n C (dk ddX10_init 48 rfl) rfl ?_
  refine x_new C (ci := 2) (q0 := (RX2, TX2, 3)) (tyf := tyX2) rfl cw2 tyX2_ok dfX2 (ax_inT 2 33 (by decide +kernel)) (ax_inT 1 193 (by decide +kernel)) miX2 (by have h := hT19; show ax_top G19 + 1 ≤ ax_top G + 638; omega) (by have h := hU19; show ax_used G19 + 3 ≤ ax_used G + 10137; omega) (dk ddX10_init 49 rfl) ?_
  refine x_dup C (dk ddX10_init 50 rfl) rfl ?_
  refine x_callI C (As := []) (k_X2_init l D T o (d - 1) (ax_new G19 10 0 3) (ax_z I17p (ax_top G19) 0) (ax_z L17p (ax_top G19) 0) (ax_top G19) rfl (ax_new_K G19 10 0 3) (ax_new_N G19 10 0 3) (ax_z_eq _ _ _) (ax_z_eq _ _ _) (by omega)) mlX10_68 ⟨by show d - 1 + 1 ≤ d; omega, by show 40 * (d - 1 + 1) ≤ 40 * d; omega⟩ ⟨by have h := hT19; show ax_top G19 + 1 + 8 ≤ ax_top G + 638; omega, by have h := hU19; show ax_used G19 + 3 + 48 ≤ ax_used G + 10137; omega⟩ rfl (Nat.le_of_ble_eq_true rfl) (dk ddX10_init 51 rfl) ?_
  rintro v_ G19p I19p L19p ⟨rfl, hp⟩
  have hq := hB19.obj hp
  clear hp
  have hB20 : ax_Bt G I L a (ax_used G + 9841) tX10_19 iX10_11 G19p I19p L19p := hq
  have hL20 : List.length tX10_19 = 606 := by decide +kernel
  have hT20 : ax_top G19p = a + 606 := by have h := hB20.1; rw [hL20] at h; exact h
  have hU20 : ax_used G19p = ax_used G + 9841 := hB20.2.1
  clear hL20
  refine x_putrF C flX10_69 fw10 rfl rfl rfl rfl (by have h := hT20; show a < ax_top G19p; omega) (show ax_K G19p a = 8 + 10 from (hB20.2.2.1 0 (18, 0, [(9, 540), (8, 483), (7, 482), (6, 481), (5, 361), (4, 311), (3, 29), (1, 15), (0, 1)]) (by decide +kernel)).1) (fun _ => rfl) (fun _ => rfl) (dk ddX10_init 52 rfl) ?_
  have h_ := hB20.ref (j := 0) (k := 10) (b := List.length tX10_18) (x := (18, 0, [(9, 540), (8, 483), (7, 482), (6, 481), (5, 361), (4, 311), (3, 29), (1, 15), (0, 1)])) (by decide +kernel) (by decide +kernel)
  rw [← hB19.1] at h_
  have hB21 : ax_Bt G I L a (ax_used G + 9841) tX10_20 iX10_11 (ax_gR G19p a 10 (some (ax_top G19))) I19p L19p := h_
  generalize ax_gR G19p a 10 (some (ax_top G19)) = G21 at hB21 ⊢
  have hL21 : List.length tX10_20 = 606 := by decide +kernel
  have hT21 : ax_top G21 = a + 606 := by have h := hB21.1; rw [hL21] at h; exact h
  have hU21 : ax_used G21 = ax_used G + 9841 := hB21.2.1
  clear hL21
  clear h_ hq
  clear hB19 hT19 hU19 hB20 hT20 hU20
  refine x_aload_n C (dk ddX10_init 53 rfl) rfl ?_
  refine x_new C (ci := 2) (q0 := (RX2, TX2, 3)) (tyf := tyX2) rfl cw2 tyX2_ok dfX2 (ax_inT 2 33 (by decide +kernel)) (ax_inT 1 193 (by decide +kernel)) miX2 (by have h := hT21; show ax_top G21 + 1 ≤ ax_top G + 638; omega) (by have h := hU21; show ax_used G21 + 3 ≤ ax_used G + 10137; omega) (dk ddX10_init 54 rfl) ?_
  refine x_dup C (dk ddX10_init 55 rfl) rfl ?_
  refine x_callI C (As := []) (k_X2_init l D T o (d - 1) (ax_new G21 10 0 3) (ax_z I19p (ax_top G21) 0) (ax_z L19p (ax_top G21) 0) (ax_top G21) rfl (ax_new_K G21 10 0 3) (ax_new_N G21 10 0 3) (ax_z_eq _ _ _) (ax_z_eq _ _ _) (by omega)) mlX10_68 ⟨by show d - 1 + 1 ≤ d; omega, by show 40 * (d - 1 + 1) ≤ 40 * d; omega⟩ ⟨by have h := hT21; show ax_top G21 + 1 + 8 ≤ ax_top G + 638; omega, by have h := hU21; show ax_used G21 + 3 + 48 ≤ ax_used G + 10137; omega⟩ rfl (Nat.le_of_ble_eq_true rfl) (dk ddX10_init 56 rfl) ?_
  rintro v_ G21p I21p L21p ⟨rfl, hp⟩
  have hq := hB21.obj hp
  clear hp
  have hB22 : ax_Bt G I L a (ax_used G + 9892) tX10_21 iX10_12 G21p I21p L21p := hq
  have hL22 : List.length tX10_21 = 615 := by decide +kernel
  have hT22 : ax_top G21p = a + 615 := by have h := hB22.1; rw [hL22] at h; exact h
  have hU22 : ax_used G21p = ax_used G + 9892 := hB22.2.1
  clear hL22
  refine x_putrF C flX10_73 fw10 rfl rfl rfl rfl (by have h := hT22; show a < ax_top G21p; omega) (show ax_K G21p a = 8 + 10 from (hB22.2.2.1 0 (18, 0, [(10, 597), (9, 540), (8, 483), (7, 482), (6, 481), (5, 361), (4, 311), (3, 29), (1, 15), (0, 1)]) (by decide +kernel)).1) (fun _ => rfl) (fun _ => rfl) (dk ddX10_init 57 rfl) ?_
  have h_ := hB22.ref (j := 0) (k := 11) (b := List.length tX10_20) (x := (18, 0, [(10, 597), (9, 540), (8, 483), (7, 482), (6, 481), (5, 361), (4, 311), (3, 29), (1, 15), (0, 1)])) (by decide +kernel) (by decide +kernel)
  rw [← hB21.1] at h_
  have hB23 : ax_Bt G I L a (ax_used G + 9892) tX10_22 iX10_12 (ax_gR G21p a 11 (some (ax_top G21))) I21p L21p := h_
  generalize ax_gR G21p a 11 (some (ax_top G21)) = G23 at hB23 ⊢
  have hL23 : List.length tX10_22 = 615 := by decide +kernel
  have hT23 : ax_top G23 = a + 615 := by have h := hB23.1; rw [hL23] at h; exact h
  have hU23 : ax_used G23 = ax_used G + 9892 := hB23.2.1
  clear hL23
  clear h_ hq
  clear hB21 hT21 hU21 hB22 hT22 hU22
  refine x_aload_n C (dk ddX10_init 58 rfl) rfl ?_
  refine x_new C (ci := 4) (q0 := (RX4, TX4, 2)) (tyf := tyX4) rfl cw4 tyX4_ok dfX4 (ax_inT 2 35 (by decide +kernel)) (ax_inT 2 36 (by decide +kernel)) miX4 (by have h := hT23; show ax_top G23 + 1 ≤ ax_top G + 638; omega) (by have h := hU23; show ax_used G23 + 2 ≤ ax_used G + 10137; omega) (dk ddX10_init 59 rfl) ?_
  refine x_dup C (dk ddX10_init 60 rfl) rfl ?_
  refine x_callI C (As := []) (k_X4_init l D T o (d - 1) (ax_new G23 12 0 2) (ax_z I21p (ax_top G23) 0) (ax_z L21p (ax_top G23) 0) (ax_top G23) rfl (ax_new_K G23 12 0 2) (ax_new_N G23 12 0 2) (ax_z_eq _ _ _) (ax_z_eq _ _ _) (by omega)) mlX10_78 ⟨by show d - 1 + 1 ≤ d; omega, by show 40 * (d - 1 + 1) ≤ 40 * d; omega⟩ ⟨by have h := hT23; show ax_top G23 + 1 + 1 ≤ ax_top G + 638; omega, by have h := hU23; show ax_used G23 + 2 + 9 ≤ ax_used G + 10137; omega⟩ rfl (Nat.le_of_ble_eq_true rfl) (dk ddX10_init 61 rfl) ?_
  rintro v_ G23p I23p L23p ⟨rfl, hp⟩
  have hq := hB23.obj hp
  clear hp
  have hB24 : ax_Bt G I L a (ax_used G + 9903) tX10_23 iX10_13 G23p I23p L23p := hq
  have hL24 : List.length tX10_23 = 617 := by decide +kernel
  have hT24 : ax_top G23p = a + 617 := by have h := hB24.1; rw [hL24] at h; exact h
  have hU24 : ax_used G23p = ax_used G + 9903 := hB24.2.1
  clear hL24
  refine x_putrF C flX10_79 fw10 rfl rfl rfl rfl (by have h := hT24; show a < ax_top G23p; omega) (show ax_K G23p a = 8 + 10 from (hB24.2.2.1 0 (18, 0, [(11, 606), (10, 597), (9, 540), (8, 483), (7, 482), (6, 481), (5, 361), (4, 311), (3, 29), (1, 15), (0, 1)]) (by decide +kernel)).1) (fun _ => rfl) (fun _ => rfl) (dk ddX10_init 62 rfl) ?_
  have h_ := hB24.ref (j := 0) (k := 12) (b := List.length tX10_22) (x := (18, 0, [(11, 606), (10, 597), (9, 540), (8, 483), (7, 482), (6, 481), (5, 361), (4, 311), (3, 29), (1, 15), (0, 1)])) (by decide +kernel) (by decide +kernel)
  rw [← hB23.1] at h_
  have hB25 : ax_Bt G I L a (ax_used G + 9903) tX10_24 iX10_13 (ax_gR G23p a 12 (some (ax_top G23))) I23p L23p := h_
  generalize ax_gR G23p a 12 (some (ax_top G23)) = G25 at hB25 ⊢
  have hL25 : List.length tX10_24 = 617 := by decide +kernel
  have hT25 : ax_top G25 = a + 617 := by have h := hB25.1; rw [hL25] at h; exact h
  have hU25 : ax_used G25 = ax_used G + 9903 := hB25.2.1
  clear hL25
  clear h_ hq
  clear hB23 hT23 hU23 hB24 hT24 hU24
  refine x_aload_n C (dk ddX10_init 63 rfl) rfl ?_
  refine x_new C (ci := 4) (q0 := (RX4, TX4, 2)) (tyf := tyX4) rfl cw4 tyX4_ok dfX4 (ax_inT 2 35 (by decide +kernel)) (ax_inT 2 36 (by decide +kernel)) miX4 (by have h := hT25; show ax_top G25 + 1 ≤ ax_top G + 638; omega) (by have h := hU25; show ax_used G25 + 2 ≤ ax_used G + 10137; omega) (dk ddX10_init 64 rfl) ?_
  refine x_dup C (dk ddX10_init 65 rfl) rfl ?_
  refine x_callI C (As := []) (k_X4_init l D T o (d - 1) (ax_new G25 12 0 2) (ax_z I23p (ax_top G25) 0) (ax_z L23p (ax_top G25) 0) (ax_top G25) rfl (ax_new_K G25 12 0 2) (ax_new_N G25 12 0 2) (ax_z_eq _ _ _) (ax_z_eq _ _ _) (by omega)) mlX10_78 ⟨by show d - 1 + 1 ≤ d; omega, by show 40 * (d - 1 + 1) ≤ 40 * d; omega⟩ ⟨by have h := hT25; show ax_top G25 + 1 + 1 ≤ ax_top G + 638; omega, by have h := hU25; show ax_used G25 + 2 + 9 ≤ ax_used G + 10137; omega⟩ rfl (Nat.le_of_ble_eq_true rfl) (dk ddX10_init 66 rfl) ?_
  rintro v_ G25p I25p L25p ⟨rfl, hp⟩
  have hq := hB25.obj hp
  clear hp
  have hB26 : ax_Bt G I L a (ax_used G + 9914) tX10_25 iX10_14 G25p I25p L25p := hq
  have hL26 : List.length tX10_25 = 619 := by decide +kernel
  have hT26 : ax_top G25p = a + 619 := by have h := hB26.1; rw [hL26] at h; exact h
  have hU26 : ax_used G25p = ax_used G + 9914 := hB26.2.1
  clear hL26
  refine x_putrF C flX10_83 fw10 rfl rfl rfl rfl (by have h := hT26; show a < ax_top G25p; omega) (show ax_K G25p a = 8 + 10 from (hB26.2.2.1 0 (18, 0, [(12, 615), (11, 606), (10, 597), (9, 540), (8, 483), (7, 482), (6, 481), (5, 361), (4, 311), (3, 29), (1, 15), (0, 1)]) (by decide +kernel)).1) (fun _ => rfl) (fun _ => rfl) (dk ddX10_init 67 rfl) ?_
  have h_ := hB26.ref (j := 0) (k := 13) (b := List.length tX10_24) (x := (18, 0, [(12, 615), (11, 606), (10, 597), (9, 540), (8, 483), (7, 482), (6, 481), (5, 361), (4, 311), (3, 29), (1, 15), (0, 1)])) (by decide +kernel) (by decide +kernel)
  rw [← hB25.1] at h_
  have hB27 : ax_Bt G I L a (ax_used G + 9914) tX10_26 iX10_14 (ax_gR G25p a 13 (some (ax_top G25))) I25p L25p := h_
  generalize ax_gR G25p a 13 (some (ax_top G25)) = G27 at hB27 ⊢
  have hL27 : List.length tX10_26 = 619 := by decide +kernel
  have hT27 : ax_top G27 = a + 619 := by have h := hB27.1; rw [hL27] at h; exact h
  have hU27 : ax_used G27 = ax_used G + 9914 := hB27.2.1
  clear hL27
  clear h_ hq
  clear hB25 hT25 hU25 hB26 hT26 hU26
  refine x_aload_n C (dk ddX10_init 68 rfl) rfl ?_
  refine x_new C (ci := 4) (q0 := (RX4, TX4, 2)) (tyf := tyX4) rfl cw4 tyX4_ok dfX4 (ax_inT 2 35 (by decide +kernel)) (ax_inT 2 36 (by decide +kernel)) miX4 (by have h := hT27; show ax_top G27 + 1 ≤ ax_top G + 638; omega) (by have h := hU27; show ax_used G27 + 2 ≤ ax_used G + 10137; omega) (dk ddX10_init 69 rfl) ?_
  refine x_dup C (dk ddX10_init 70 rfl) rfl ?_
  refine x_callI C (As := []) (k_X4_init l D T o (d - 1) (ax_new G27 12 0 2) (ax_z I25p (ax_top G27) 0) (ax_z L25p (ax_top G27) 0) (ax_top G27) rfl (ax_new_K G27 12 0 2) (ax_new_N G27 12 0 2) (ax_z_eq _ _ _) (ax_z_eq _ _ _) (by omega)) mlX10_78 ⟨by show d - 1 + 1 ≤ d; omega, by show 40 * (d - 1 + 1) ≤ 40 * d; omega⟩ ⟨by have h := hT27; show ax_top G27 + 1 + 1 ≤ ax_top G + 638; omega, by have h := hU27; show ax_used G27 + 2 + 9 ≤ ax_used G + 10137; omega⟩ rfl (Nat.le_of_ble_eq_true rfl) (dk ddX10_init 71 rfl) ?_
  rintro v_ G27p I27p L27p ⟨rfl, hp⟩
  have hq := hB27.obj hp
  clear hp
  have hB28 : ax_Bt G I L a (ax_used G + 9925) tX10_27 iX10_15 G27p I27p L27p := hq
  have hL28 : List.length tX10_27 = 621 := by decide +kernel
  have hT28 : ax_top G27p = a + 621 := by have h := hB28.1; rw [hL28] at h; exact h
  have hU28 : ax_used G27p = ax_used G + 9925 := hB28.2.1
  clear hL28
  refine x_putrF C flX10_86 fw10 rfl rfl rfl rfl (by have h := hT28; show a < ax_top G27p; omega) (show ax_K G27p a = 8 + 10 from (hB28.2.2.1 0 (18, 0, [(13, 617), (12, 615), (11, 606), (10, 597), (9, 540), (8, 483), (7, 482), (6, 481), (5, 361), (4, 311), (3, 29), (1, 15), (0, 1)]) (by decide +kernel)).1) (fun _ => rfl) (fun _ => rfl) (dk ddX10_init 72 rfl) ?_
  have h_ := hB28.ref (j := 0) (k := 14) (b := List.length tX10_26) (x := (18, 0, [(13, 617), (12, 615), (11, 606), (10, 597), (9, 540), (8, 483), (7, 482), (6, 481), (5, 361), (4, 311), (3, 29), (1, 15), (0, 1)])) (by decide +kernel) (by decide +kernel)
  rw [← hB27.1] at h_
  have hB29 : ax_Bt G I L a (ax_used G + 9925) tX10_28 iX10_15 (ax_gR G27p a 14 (some (ax_top G27))) I27p L27p := h_
  generalize ax_gR G27p a 14 (some (ax_top G27)) = G29 at hB29 ⊢
  have hL29 : List.length tX10_28 = 621 := by decide +kernel
  have hT29 : ax_top G29 = a + 621 := by have h := hB29.1; rw [hL29] at h; exact h
  have hU29 : ax_used G29 = ax_used G + 9925 := hB29.2.1
  clear hL29
  clear h_ hq
  clear hB27 hT27 hU27 hB28 hT28 hU28
  refine x_aload_n C (dk ddX10_init 73 rfl) rfl ?_
  refine x_bipush C (v := nI 6) (dk ddX10_init 74 rfl) (by decide) ?_
  refine x_nal C (by decide) (by have h := hT29; show ax_top G29 + 1 ≤ ax_top G + 638; omega) (by have h := hU29; show ax_used G29 + 6 ≤ ax_used G + 10137; omega) (dk ddX10_init 75 rfl) ?_
  have hN_ := hB29.new (k := 2) (n := 6) (sl := 6)
  have hB30 : ax_Bt G I L a (ax_used G + 9931) tX10_29 iX10_16 (ax_new G29 2 6 6) (ax_z I27p (ax_top G29) 0) (ax_z L27p (ax_top G29) 0) := hN_
  generalize ax_new G29 2 6 6 = G30 at hB30 ⊢
  generalize ax_z I27p (ax_top G29) 0 = I30 at hB30 ⊢
  generalize ax_z L27p (ax_top G29) 0 = L30 at hB30 ⊢
  have hL30 : List.length tX10_29 = 622 := by decide +kernel
  have hT30 : ax_top G30 = a + 622 := by have h := hB30.1; rw [hL30] at h; exact h
  have hU30 : ax_used G30 = ax_used G + 9931 := hB30.2.1
  clear hL30
  clear hN_
  refine x_putrF C flX10_89 fw10 rfl rfl rfl rfl (by have h := hT30; show a < ax_top G30; omega) (show ax_K G30 a = 8 + 10 from (hB30.2.2.1 0 (18, 0, [(14, 619), (13, 617), (12, 615), (11, 606), (10, 597), (9, 540), (8, 483), (7, 482), (6, 481), (5, 361), (4, 311), (3, 29), (1, 15), (0, 1)]) (by decide +kernel)).1) (fun _ => rfl) (fun _ => rfl) (dk ddX10_init 76 rfl) ?_
  have h_ := hB30.ref (j := 0) (k := 15) (b := List.length tX10_28) (x := (18, 0, [(14, 619), (13, 617), (12, 615), (11, 606), (10, 597), (9, 540), (8, 483), (7, 482), (6, 481), (5, 361), (4, 311), (3, 29), (1, 15), (0, 1)])) (by decide +kernel) (by decide +kernel)
  rw [← hB29.1] at h_
  have hB31 : ax_Bt G I L a (ax_used G + 9931) tX10_30 iX10_16 (ax_gR G30 a 15 (some (ax_top G29))) I30 L30 := h_
  generalize ax_gR G30 a 15 (some (ax_top G29)) = G31 at hB31 ⊢
  have hL31 : List.length tX10_30 = 622 := by decide +kernel
  have hT31 : ax_top G31 = a + 622 := by have h := hB31.1; rw [hL31] at h; exact h
  have hU31 : ax_used G31 = ax_used G + 9931 := hB31.2.1
  clear hL31
  clear h_
  clear hB29 hT29 hU29 hB30 hT30 hU30
  refine x_aload_n C (dk ddX10_init 77 rfl) rfl ?_
  refine x_bipush C (v := nI 6) (dk ddX10_init 78 rfl) (by decide) ?_
  refine x_nal C (by decide) (by have h := hT31; show ax_top G31 + 1 ≤ ax_top G + 638; omega) (by have h := hU31; show ax_used G31 + 6 ≤ ax_used G + 10137; omega) (dk ddX10_init 79 rfl) ?_
  have hN_ := hB31.new (k := 2) (n := 6) (sl := 6)
  have hB32 : ax_Bt G I L a (ax_used G + 9937) tX10_31 iX10_17 (ax_new G31 2 6 6) (ax_z I30 (ax_top G31) 0) (ax_z L30 (ax_top G31) 0) := hN_
  generalize ax_new G31 2 6 6 = G32 at hB32 ⊢
  generalize ax_z I30 (ax_top G31) 0 = I32 at hB32 ⊢
  generalize ax_z L30 (ax_top G31) 0 = L32 at hB32 ⊢
  have hL32 : List.length tX10_31 = 623 := by decide +kernel
  have hT32 : ax_top G32 = a + 623 := by have h := hB32.1; rw [hL32] at h; exact h
  have hU32 : ax_used G32 = ax_used G + 9937 := hB32.2.1
  clear hL32
  clear hN_
  refine x_putrF C flX10_93 fw10 rfl rfl rfl rfl (by have h := hT32; show a < ax_top G32; omega) (show ax_K G32 a = 8 + 10 from (hB32.2.2.1 0 (18, 0, [(15, 621), (14, 619), (13, 617), (12, 615), (11, 606), (10, 597), (9, 540), (8, 483), (7, 482), (6, 481), (5, 361), (4, 311), (3, 29), (1, 15), (0, 1)]) (by decide +kernel)).1) (fun _ => rfl) (fun _ => rfl) (dk ddX10_init 80 rfl) ?_
  have h_ := hB32.ref (j := 0) (k := 16) (b := List.length tX10_30) (x := (18, 0, [(15, 621), (14, 619), (13, 617), (12, 615), (11, 606), (10, 597), (9, 540), (8, 483), (7, 482), (6, 481), (5, 361), (4, 311), (3, 29), (1, 15), (0, 1)])) (by decide +kernel) (by decide +kernel)
  rw [← hB31.1] at h_
  have hB33 : ax_Bt G I L a (ax_used G + 9937) tX10_32 iX10_17 (ax_gR G32 a 16 (some (ax_top G31))) I32 L32 := h_
  generalize ax_gR G32 a 16 (some (ax_top G31)) = G33 at hB33 ⊢
  have hL33 : List.length tX10_32 = 623 := by decide +kernel
  have hT33 : ax_top G33 = a + 623 := by have h := hB33.1; rw [hL33] at h; exact h
  have hU33 : ax_used G33 = ax_used G + 9937 := hB33.2.1
  clear hL33
  clear h_
  clear hB31 hT31 hU31 hB32 hT32 hU32
  refine x_iconst C (v := nI 0) (dk ddX10_init 81 rfl) (by decide) ?_
  refine x_istore_n C (lv' := [(1, .int (nI 0)), (0, .ref a)]) (dk ddX10_init 82 rfl) (by decide) rfl ?_
  refine x_iload_n C (dk ddX10_init 83 rfl) rfl ?_
  refine x_iconst C (v := nI 4) (dk ddX10_init 84 rfl) (by decide) ?_
  refine x_icmp_ge C (tgt := 199) (dk ddX10_init 85 rfl) (by decide) (fun h_ => absurd h_ (by decide)) (fun h_ => ?_)
  clear h_
  refine x_aload_n C (dk ddX10_init 86 rfl) rfl ?_
  refine x_getr C flX10_46 rfl (by have h := hT33; show a < ax_top G33; omega) (show ax_K G33 a = 8 + 10 from (hB33.2.2.1 0 (18, 0, [(16, 622), (15, 621), (14, 619), (13, 617), (12, 615), (11, 606), (10, 597), (9, 540), (8, 483), (7, 482), (6, 481), (5, 361), (4, 311), (3, 29), (1, 15), (0, 1)]) (by decide +kernel)).1) (show ax_R G33 a 6 = some (a + 481) from (hB33.2.2.1 0 (18, 0, [(16, 622), (15, 621), (14, 619), (13, 617), (12, 615), (11, 606), (10, 597), (9, 540), (8, 483), (7, 482), (6, 481), (5, 361), (4, 311), (3, 29), (1, 15), (0, 1)]) (by decide +kernel)).2.2 (6, 481) (by decide)) (dk ddX10_init 87 rfl) ?_
  refine x_iload_n C (dk ddX10_init 88 rfl) rfl ?_
  refine x_new C (ci := 5) (q0 := (RX5, TX5, 3)) (tyf := tyX5) rfl cw5 tyX5_ok dfX5 (ax_inT 2 27 (by decide +kernel)) (ax_inT 2 49 (by decide +kernel)) miX5 (by have h := hT33; show ax_top G33 + 1 ≤ ax_top G + 638; omega) (by have h := hU33; show ax_used G33 + 3 ≤ ax_used G + 10137; omega) (dk ddX10_init 89 rfl) ?_
  refine x_dup C (dk ddX10_init 90 rfl) rfl ?_
  refine x_callI C (As := []) (k_X5_init l D T o (d - 1) (ax_new G33 13 0 3) (ax_z I32 (ax_top G33) 0) (ax_z L32 (ax_top G33) 0) (ax_top G33) rfl (ax_new_K G33 13 0 3) (ax_new_N G33 13 0 3) (ax_z_eq _ _ _) (ax_z_eq _ _ _) (by omega)) mlX10_96 ⟨by show d - 1 + 1 ≤ d; omega, by show 40 * (d - 1 + 1) ≤ 40 * d; omega⟩ ⟨by have h := hT33; show ax_top G33 + 1 + 1 ≤ ax_top G + 638; omega, by have h := hU33; show ax_used G33 + 3 + 40 ≤ ax_used G + 10137; omega⟩ rfl (Nat.le_of_ble_eq_true rfl) (dk ddX10_init 91 rfl) ?_
  rintro v_ G33p I33p L33p ⟨rfl, hp⟩
  have hq := hB33.obj hp
  clear hp
  have hB34 : ax_Bt G I L a (ax_used G + 9980) tX10_33 iX10_18 G33p I33p L33p := hq
  have hL34 : List.length tX10_33 = 625 := by decide +kernel
  have hT34 : ax_top G33p = a + 625 := by have h := hB34.1; rw [hL34] at h; exact h
  have hU34 : ax_used G33p = ax_used G + 9980 := hB34.2.1
  clear hL34
  refine x_aast C (t := 5) (ci := 5) (n := 4) (i := 0) (r := (RX5, TX5, 3)) (by have h := hT34; show a + 481 < ax_top G33p; omega) (show ax_K G33p (a + 481) = 5 from (hB34.2.2.1 481 (5, 4, []) (by decide +kernel)).1) (hB34.2.2.1 481 (5, 4, []) (by decide +kernel)).2.1 (by decide) (by decide) rfl rfl (by have h := hT34; have h2 := hT33; omega) (by rw [hT33]; exact (hB34.2.2.1 623 (13, 0, [(2, 624)]) (by decide +kernel)).1) (by decide) (by decide) (dk ddX10_init 92 rfl) ?_
  have h_ := hB34.ref (j := 481) (k := 0) (b := List.length tX10_32) (x := (5, 4, [])) (by decide +kernel) (by decide +kernel)
  rw [← hB33.1] at h_
  have hB35 : ax_Bt G I L a (ax_used G + 9980) tX10_34 iX10_18 (ax_gR G33p (a + 481) 0 (some (ax_top G33))) I33p L33p := h_
  generalize ax_gR G33p (a + 481) 0 (some (ax_top G33)) = G35 at hB35 ⊢
  have hL35 : List.length tX10_34 = 625 := by decide +kernel
  have hT35 : ax_top G35 = a + 625 := by have h := hB35.1; rw [hL35] at h; exact h
  have hU35 : ax_used G35 = ax_used G + 9980 := hB35.2.1
  clear hL35
  clear h_ hq
  clear hB33 hT33 hU33 hB34 hT34 hU34
  refine x_iinc C (v := nI 1) (lv' := [(1, .int (nI 1)), (0, .ref a)]) (dk ddX10_init 93 rfl) rfl (by decide) (by decide) rfl ?_
  refine x_goto C (tgt := 175) (dk ddX10_init 94 rfl) (by decide) ?_
  refine x_iload_n C (dk ddX10_init 83 rfl) rfl ?_
  refine x_iconst C (v := nI 4) (dk ddX10_init 84 rfl) (by decide) ?_
  refine x_icmp_ge C (tgt := 199) (dk ddX10_init 85 rfl) (by decide) (fun h_ => absurd h_ (by decide)) (fun h_ => ?_)
  clear h_
  refine x_aload_n C (dk ddX10_init 86 rfl) rfl ?_
  refine x_getr C flX10_46 rfl (by have h := hT35; show a < ax_top G35; omega) (show ax_K G35 a = 8 + 10 from (hB35.2.2.1 0 (18, 0, [(16, 622), (15, 621), (14, 619), (13, 617), (12, 615), (11, 606), (10, 597), (9, 540), (8, 483), (7, 482), (6, 481), (5, 361), (4, 311), (3, 29), (1, 15), (0, 1)]) (by decide +kernel)).1) (show ax_R G35 a 6 = some (a + 481) from (hB35.2.2.1 0 (18, 0, [(16, 622), (15, 621), (14, 619), (13, 617), (12, 615), (11, 606), (10, 597), (9, 540), (8, 483), (7, 482), (6, 481), (5, 361), (4, 311), (3, 29), (1, 15), (0, 1)]) (by decide +kernel)).2.2 (6, 481) (by decide)) (dk ddX10_init 87 rfl) ?_
  refine x_iload_n C (dk ddX10_init 88 rfl) rfl ?_
  refine x_new C (ci := 5) (q0 := (RX5, TX5, 3)) (tyf := tyX5) rfl cw5 tyX5_ok dfX5 (ax_inT 2 27 (by decide +kernel)) (ax_inT 2 49 (by decide +kernel)) miX5 (by have h := hT35; show ax_top G35 + 1 ≤ ax_top G + 638; omega) (by have h := hU35; show ax_used G35 + 3 ≤ ax_used G + 10137; omega) (dk ddX10_init 89 rfl) ?_
  refine x_dup C (dk ddX10_init 90 rfl) rfl ?_
  refine x_callI C (As := []) (k_X5_init l D T o (d - 1) (ax_new G35 13 0 3) (ax_z I33p (ax_top G35) 0) (ax_z L33p (ax_top G35) 0) (ax_top G35) rfl (ax_new_K G35 13 0 3) (ax_new_N G35 13 0 3) (ax_z_eq _ _ _) (ax_z_eq _ _ _) (by omega)) mlX10_96 ⟨by show d - 1 + 1 ≤ d; omega, by show 40 * (d - 1 + 1) ≤ 40 * d; omega⟩ ⟨by have h := hT35; show ax_top G35 + 1 + 1 ≤ ax_top G + 638; omega, by have h := hU35; show ax_used G35 + 3 + 40 ≤ ax_used G + 10137; omega⟩ rfl (Nat.le_of_ble_eq_true rfl) (dk ddX10_init 91 rfl) ?_
  rintro v_ G35p I35p L35p ⟨rfl, hp⟩
  have hq := hB35.obj hp
  clear hp
  have hB36 : ax_Bt G I L a (ax_used G + 10023) tX10_35 iX10_19 G35p I35p L35p := hq
  have hL36 : List.length tX10_35 = 627 := by decide +kernel
  have hT36 : ax_top G35p = a + 627 := by have h := hB36.1; rw [hL36] at h; exact h
  have hU36 : ax_used G35p = ax_used G + 10023 := hB36.2.1
  clear hL36
  refine x_aast C (t := 5) (ci := 5) (n := 4) (i := 1) (r := (RX5, TX5, 3)) (by have h := hT36; show a + 481 < ax_top G35p; omega) (show ax_K G35p (a + 481) = 5 from (hB36.2.2.1 481 (5, 4, [(0, 623)]) (by decide +kernel)).1) (hB36.2.2.1 481 (5, 4, [(0, 623)]) (by decide +kernel)).2.1 (by decide) (by decide) rfl rfl (by have h := hT36; have h2 := hT35; omega) (by rw [hT35]; exact (hB36.2.2.1 625 (13, 0, [(2, 626)]) (by decide +kernel)).1) (by decide) (by decide) (dk ddX10_init 92 rfl) ?_
  have h_ := hB36.ref (j := 481) (k := 1) (b := List.length tX10_34) (x := (5, 4, [(0, 623)])) (by decide +kernel) (by decide +kernel)
  rw [← hB35.1] at h_
  have hB37 : ax_Bt G I L a (ax_used G + 10023) tX10_36 iX10_19 (ax_gR G35p (a + 481) 1 (some (ax_top G35))) I35p L35p := h_
  generalize ax_gR G35p (a + 481) 1 (some (ax_top G35)) = G37 at hB37 ⊢
  have hL37 : List.length tX10_36 = 627 := by decide +kernel
  have hT37 : ax_top G37 = a + 627 := by have h := hB37.1; rw [hL37] at h; exact h
  have hU37 : ax_used G37 = ax_used G + 10023 := hB37.2.1
  clear hL37
  clear h_ hq
  clear hB35 hT35 hU35 hB36 hT36 hU36
  refine x_iinc C (v := nI 2) (lv' := [(1, .int (nI 2)), (0, .ref a)]) (dk ddX10_init 93 rfl) rfl (by decide) (by decide) rfl ?_
  refine x_goto C (tgt := 175) (dk ddX10_init 94 rfl) (by decide) ?_
  refine x_iload_n C (dk ddX10_init 83 rfl) rfl ?_
  refine x_iconst C (v := nI 4) (dk ddX10_init 84 rfl) (by decide) ?_
  refine x_icmp_ge C (tgt := 199) (dk ddX10_init 85 rfl) (by decide) (fun h_ => absurd h_ (by decide)) (fun h_ => ?_)
  clear h_
  refine x_aload_n C (dk ddX10_init 86 rfl) rfl ?_
  refine x_getr C flX10_46 rfl (by have h := hT37; show a < ax_top G37; omega) (show ax_K G37 a = 8 + 10 from (hB37.2.2.1 0 (18, 0, [(16, 622), (15, 621), (14, 619), (13, 617), (12, 615), (11, 606), (10, 597), (9, 540), (8, 483), (7, 482), (6, 481), (5, 361), (4, 311), (3, 29), (1, 15), (0, 1)]) (by decide +kernel)).1) (show ax_R G37 a 6 = some (a + 481) from (hB37.2.2.1 0 (18, 0, [(16, 622), (15, 621), (14, 619), (13, 617), (12, 615), (11, 606), (10, 597), (9, 540), (8, 483), (7, 482), (6, 481), (5, 361), (4, 311), (3, 29), (1, 15), (0, 1)]) (by decide +kernel)).2.2 (6, 481) (by decide)) (dk ddX10_init 87 rfl) ?_
  refine x_iload_n C (dk ddX10_init 88 rfl) rfl ?_
  refine x_new C (ci := 5) (q0 := (RX5, TX5, 3)) (tyf := tyX5) rfl cw5 tyX5_ok dfX5 (ax_inT 2 27 (by decide +kernel)) (ax_inT 2 49 (by decide +kernel)) miX5 (by have h := hT37; show ax_top G37 + 1 ≤ ax_top G + 638; omega) (by have h := hU37; show ax_used G37 + 3 ≤ ax_used G + 10137; omega) (dk ddX10_init 89 rfl) ?_
  refine x_dup C (dk ddX10_init 90 rfl) rfl ?_
  refine x_callI C (As := []) (k_X5_init l D T o (d - 1) (ax_new G37 13 0 3) (ax_z I35p (ax_top G37) 0) (ax_z L35p (ax_top G37) 0) (ax_top G37) rfl (ax_new_K G37 13 0 3) (ax_new_N G37 13 0 3) (ax_z_eq _ _ _) (ax_z_eq _ _ _) (by omega)) mlX10_96 ⟨by show d - 1 + 1 ≤ d; omega, by show 40 * (d - 1 + 1) ≤ 40 * d; omega⟩ ⟨by have h := hT37; show ax_top G37 + 1 + 1 ≤ ax_top G + 638; omega, by have h := hU37; show ax_used G37 + 3 + 40 ≤ ax_used G + 10137; omega⟩ rfl (Nat.le_of_ble_eq_true rfl) (dk ddX10_init 91 rfl) ?_
  rintro v_ G37p I37p L37p ⟨rfl, hp⟩
  have hq := hB37.obj hp
  clear hp
  have hB38 : ax_Bt G I L a (ax_used G + 10066) tX10_37 iX10_20 G37p I37p L37p := hq
  have hL38 : List.length tX10_37 = 629 := by decide +kernel
  have hT38 : ax_top G37p = a + 629 := by have h := hB38.1; rw [hL38] at h; exact h
  have hU38 : ax_used G37p = ax_used G + 10066 := hB38.2.1
  clear hL38
  refine x_aast C (t := 5) (ci := 5) (n := 4) (i := 2) (r := (RX5, TX5, 3)) (by have h := hT38; show a + 481 < ax_top G37p; omega) (show ax_K G37p (a + 481) = 5 from (hB38.2.2.1 481 (5, 4, [(1, 625), (0, 623)]) (by decide +kernel)).1) (hB38.2.2.1 481 (5, 4, [(1, 625), (0, 623)]) (by decide +kernel)).2.1 (by decide) (by decide) rfl rfl (by have h := hT38; have h2 := hT37; omega) (by rw [hT37]; exact (hB38.2.2.1 627 (13, 0, [(2, 628)]) (by decide +kernel)).1) (by decide) (by decide) (dk ddX10_init 92 rfl) ?_
  have h_ := hB38.ref (j := 481) (k := 2) (b := List.length tX10_36) (x := (5, 4, [(1, 625), (0, 623)])) (by decide +kernel) (by decide +kernel)
  rw [← hB37.1] at h_
  have hB39 : ax_Bt G I L a (ax_used G + 10066) tX10_38 iX10_20 (ax_gR G37p (a + 481) 2 (some (ax_top G37))) I37p L37p := h_
  generalize ax_gR G37p (a + 481) 2 (some (ax_top G37)) = G39 at hB39 ⊢
  have hL39 : List.length tX10_38 = 629 := by decide +kernel
  have hT39 : ax_top G39 = a + 629 := by have h := hB39.1; rw [hL39] at h; exact h
  have hU39 : ax_used G39 = ax_used G + 10066 := hB39.2.1
  clear hL39
  clear h_ hq
  clear hB37 hT37 hU37 hB38 hT38 hU38
  refine x_iinc C (v := nI 3) (lv' := [(1, .int (nI 3)), (0, .ref a)]) (dk ddX10_init 93 rfl) rfl (by decide) (by decide) rfl ?_
  refine x_goto C (tgt := 175) (dk ddX10_init 94 rfl) (by decide) ?_
  refine x_iload_n C (dk ddX10_init 83 rfl) rfl ?_
  refine x_iconst C (v := nI 4) (dk ddX10_init 84 rfl) (by decide) ?_
  refine x_icmp_ge C (tgt := 199) (dk ddX10_init 85 rfl) (by decide) (fun h_ => absurd h_ (by decide)) (fun h_ => ?_)
  clear h_
  refine x_aload_n C (dk ddX10_init 86 rfl) rfl ?_
  refine x_getr C flX10_46 rfl (by have h := hT39; show a < ax_top G39; omega) (show ax_K G39 a = 8 + 10 from (hB39.2.2.1 0 (18, 0, [(16, 622), (15, 621), (14, 619), (13, 617), (12, 615), (11, 606), (10, 597), (9, 540), (8, 483), (7, 482), (6, 481), (5, 361), (4, 311), (3, 29), (1, 15), (0, 1)]) (by decide +kernel)).1) (show ax_R G39 a 6 = some (a + 481) from (hB39.2.2.1 0 (18, 0, [(16, 622), (15, 621), (14, 619), (13, 617), (12, 615), (11, 606), (10, 597), (9, 540), (8, 483), (7, 482), (6, 481), (5, 361), (4, 311), (3, 29), (1, 15), (0, 1)]) (by decide +kernel)).2.2 (6, 481) (by decide)) (dk ddX10_init 87 rfl) ?_
  refine x_iload_n C (dk ddX10_init 88 rfl) rfl ?_
  refine x_new C (ci := 5) (q0 := (RX5, TX5, 3)) (tyf := tyX5) rfl cw5 tyX5_ok dfX5 (ax_inT 2 27 (by decide +kernel)) (ax_inT 2 49 (by decide +kernel)) miX5 (by have h := hT39; show ax_top G39 + 1 ≤ ax_top G + 638; omega) (by have h := hU39; show ax_used G39 + 3 ≤ ax_used G + 10137; omega) (dk ddX10_init 89 rfl) ?_
  refine x_dup C (dk ddX10_init 90 rfl) rfl ?_
  refine x_callI C (As := []) (k_X5_init l D T o (d - 1) (ax_new G39 13 0 3) (ax_z I37p (ax_top G39) 0) (ax_z L37p (ax_top G39) 0) (ax_top G39) rfl (ax_new_K G39 13 0 3) (ax_new_N G39 13 0 3) (ax_z_eq _ _ _) (ax_z_eq _ _ _) (by omega)) mlX10_96 ⟨by show d - 1 + 1 ≤ d; omega, by show 40 * (d - 1 + 1) ≤ 40 * d; omega⟩ ⟨by have h := hT39; show ax_top G39 + 1 + 1 ≤ ax_top G + 638; omega, by have h := hU39; show ax_used G39 + 3 + 40 ≤ ax_used G + 10137; omega⟩ rfl (Nat.le_of_ble_eq_true rfl) (dk ddX10_init 91 rfl) ?_
  rintro v_ G39p I39p L39p ⟨rfl, hp⟩
  have hq := hB39.obj hp
  clear hp
  have hB40 : ax_Bt G I L a (ax_used G + 10109) tX10_39 iX10_21 G39p I39p L39p := hq
  have hL40 : List.length tX10_39 = 631 := by decide +kernel
  have hT40 : ax_top G39p = a + 631 := by have h := hB40.1; rw [hL40] at h; exact h
  have hU40 : ax_used G39p = ax_used G + 10109 := hB40.2.1
  clear hL40
  refine x_aast C (t := 5) (ci := 5) (n := 4) (i := 3) (r := (RX5, TX5, 3)) (by have h := hT40; show a + 481 < ax_top G39p; omega) (show ax_K G39p (a + 481) = 5 from (hB40.2.2.1 481 (5, 4, [(2, 627), (1, 625), (0, 623)]) (by decide +kernel)).1) (hB40.2.2.1 481 (5, 4, [(2, 627), (1, 625), (0, 623)]) (by decide +kernel)).2.1 (by decide) (by decide) rfl rfl (by have h := hT40; have h2 := hT39; omega) (by rw [hT39]; exact (hB40.2.2.1 629 (13, 0, [(2, 630)]) (by decide +kernel)).1) (by decide) (by decide) (dk ddX10_init 92 rfl) ?_
  have h_ := hB40.ref (j := 481) (k := 3) (b := List.length tX10_38) (x := (5, 4, [(2, 627), (1, 625), (0, 623)])) (by decide +kernel) (by decide +kernel)
  rw [← hB39.1] at h_
  have hB41 : ax_Bt G I L a (ax_used G + 10109) tX10_40 iX10_21 (ax_gR G39p (a + 481) 3 (some (ax_top G39))) I39p L39p := h_
  generalize ax_gR G39p (a + 481) 3 (some (ax_top G39)) = G41 at hB41 ⊢
  have hL41 : List.length tX10_40 = 631 := by decide +kernel
  have hT41 : ax_top G41 = a + 631 := by have h := hB41.1; rw [hL41] at h; exact h
  have hU41 : ax_used G41 = ax_used G + 10109 := hB41.2.1
  clear hL41
  clear h_ hq
  clear hB39 hT39 hU39 hB40 hT40 hU40
  refine x_iinc C (v := nI 4) (lv' := [(1, .int (nI 4)), (0, .ref a)]) (dk ddX10_init 93 rfl) rfl (by decide) (by decide) rfl ?_
  refine x_goto C (tgt := 175) (dk ddX10_init 94 rfl) (by decide) ?_
  refine x_iload_n C (dk ddX10_init 83 rfl) rfl ?_
  refine x_iconst C (v := nI 4) (dk ddX10_init 84 rfl) (by decide) ?_
  refine x_icmp_ge C (tgt := 199) (dk ddX10_init 85 rfl) (by decide) (fun h_ => ?_) (fun h_ => absurd (by decide) h_)
  clear h_
  refine x_iconst C (v := nI 0) (dk ddX10_init 95 rfl) (by decide) ?_
  refine x_istore_n C (lv' := [(1, .int (nI 0)), (0, .ref a)]) (dk ddX10_init 96 rfl) (by decide) rfl ?_
  refine x_iload_n C (dk ddX10_init 97 rfl) rfl ?_
  refine x_iconst C (v := nI 4) (dk ddX10_init 98 rfl) (by decide) ?_
  refine x_icmp_ge C (tgt := 225) (dk ddX10_init 99 rfl) (by decide) (fun h_ => absurd h_ (by decide)) (fun h_ => ?_)
  clear h_
  refine x_aload_n C (dk ddX10_init_p1 0 rfl) rfl ?_
  refine x_getr C flX10_52 rfl (by have h := hT41; show a < ax_top G41; omega) (show ax_K G41 a = 8 + 10 from (hB41.2.2.1 0 (18, 0, [(16, 622), (15, 621), (14, 619), (13, 617), (12, 615), (11, 606), (10, 597), (9, 540), (8, 483), (7, 482), (6, 481), (5, 361), (4, 311), (3, 29), (1, 15), (0, 1)]) (by decide +kernel)).1) (show ax_R G41 a 7 = some (a + 482) from (hB41.2.2.1 0 (18, 0, [(16, 622), (15, 621), (14, 619), (13, 617), (12, 615), (11, 606), (10, 597), (9, 540), (8, 483), (7, 482), (6, 481), (5, 361), (4, 311), (3, 29), (1, 15), (0, 1)]) (by decide +kernel)).2.2 (7, 482) (by decide)) (dk ddX10_init_p1 1 rfl) ?_
  refine x_iload_n C (dk ddX10_init_p1 2 rfl) rfl ?_
  refine x_new C (ci := 6) (q0 := (RX6, TX6, 4)) (tyf := tyX6) rfl cw6 tyX6_ok dfX6 (ax_inT 2 29 (by decide +kernel)) (ax_inT 2 67 (by decide +kernel)) miX6 (by have h := hT41; show ax_top G41 + 1 ≤ ax_top G + 638; omega) (by have h := hU41; show ax_used G41 + 4 ≤ ax_used G + 10137; omega) (dk ddX10_init_p1 3 rfl) ?_
  refine x_dup C (dk ddX10_init_p1 4 rfl) rfl ?_
  refine x_callI C (As := []) (k_X6_init l D T o (d - 1) (ax_new G41 14 0 4) (ax_z I39p (ax_top G41) 0) (ax_z L39p (ax_top G41) 0) (ax_top G41) rfl (ax_new_K G41 14 0 4) (ax_new_N G41 14 0 4) (ax_z_eq _ _ _) (ax_z_eq _ _ _) (by omega)) mlX10_97 ⟨by show d - 1 + 1 ≤ d; omega, by show 40 * (d - 1 + 1) ≤ 40 * d; omega⟩ ⟨by have h := hT41; show ax_top G41 + 1 + 1 ≤ ax_top G + 638; omega, by have h := hU41; show ax_used G41 + 4 + 3 ≤ ax_used G + 10137; omega⟩ rfl (Nat.le_of_ble_eq_true rfl) (dk ddX10_init_p1 5 rfl) ?_
  rintro v_ G41p I41p L41p ⟨rfl, hp⟩
  have hq := hB41.obj hp
  clear hp
  have hB42 : ax_Bt G I L a (ax_used G + 10116) tX10_41 iX10_22 G41p I41p L41p := hq
  have hL42 : List.length tX10_41 = 633 := by decide +kernel
  have hT42 : ax_top G41p = a + 633 := by have h := hB42.1; rw [hL42] at h; exact h
  have hU42 : ax_used G41p = ax_used G + 10116 := hB42.2.1
  clear hL42
  refine x_aast C (t := 6) (ci := 6) (n := 4) (i := 0) (r := (RX6, TX6, 4)) (by have h := hT42; show a + 482 < ax_top G41p; omega) (show ax_K G41p (a + 482) = 6 from (hB42.2.2.1 482 (6, 4, []) (by decide +kernel)).1) (hB42.2.2.1 482 (6, 4, []) (by decide +kernel)).2.1 (by decide) (by decide) rfl rfl (by have h := hT42; have h2 := hT41; omega) (by rw [hT41]; exact (hB42.2.2.1 631 (14, 0, [(1, 632)]) (by decide +kernel)).1) (by decide) (by decide) (dk ddX10_init_p1 6 rfl) ?_
  have h_ := hB42.ref (j := 482) (k := 0) (b := List.length tX10_40) (x := (6, 4, [])) (by decide +kernel) (by decide +kernel)
  rw [← hB41.1] at h_
  have hB43 : ax_Bt G I L a (ax_used G + 10116) tX10_42 iX10_22 (ax_gR G41p (a + 482) 0 (some (ax_top G41))) I41p L41p := h_
  generalize ax_gR G41p (a + 482) 0 (some (ax_top G41)) = G43 at hB43 ⊢
  have hL43 : List.length tX10_42 = 633 := by decide +kernel
  have hT43 : ax_top G43 = a + 633 := by have h := hB43.1; rw [hL43] at h; exact h
  have hU43 : ax_used G43 = ax_used G + 10116 := hB43.2.1
  clear hL43
  clear h_ hq
  clear hB41 hT41 hU41 hB42 hT42 hU42
  refine x_iinc C (v := nI 1) (lv' := [(1, .int (nI 1)), (0, .ref a)]) (dk ddX10_init_p1 7 rfl) rfl (by decide) (by decide) rfl ?_
  refine x_goto C (tgt := 201) (dk ddX10_init_p1 8 rfl) (by decide) ?_
  refine x_iload_n C (dk ddX10_init 97 rfl) rfl ?_
  refine x_iconst C (v := nI 4) (dk ddX10_init 98 rfl) (by decide) ?_
  refine x_icmp_ge C (tgt := 225) (dk ddX10_init 99 rfl) (by decide) (fun h_ => absurd h_ (by decide)) (fun h_ => ?_)
  clear h_
  refine x_aload_n C (dk ddX10_init_p1 0 rfl) rfl ?_
  refine x_getr C flX10_52 rfl (by have h := hT43; show a < ax_top G43; omega) (show ax_K G43 a = 8 + 10 from (hB43.2.2.1 0 (18, 0, [(16, 622), (15, 621), (14, 619), (13, 617), (12, 615), (11, 606), (10, 597), (9, 540), (8, 483), (7, 482), (6, 481), (5, 361), (4, 311), (3, 29), (1, 15), (0, 1)]) (by decide +kernel)).1) (show ax_R G43 a 7 = some (a + 482) from (hB43.2.2.1 0 (18, 0, [(16, 622), (15, 621), (14, 619), (13, 617), (12, 615), (11, 606), (10, 597), (9, 540), (8, 483), (7, 482), (6, 481), (5, 361), (4, 311), (3, 29), (1, 15), (0, 1)]) (by decide +kernel)).2.2 (7, 482) (by decide)) (dk ddX10_init_p1 1 rfl) ?_
  refine x_iload_n C (dk ddX10_init_p1 2 rfl) rfl ?_
  refine x_new C (ci := 6) (q0 := (RX6, TX6, 4)) (tyf := tyX6) rfl cw6 tyX6_ok dfX6 (ax_inT 2 29 (by decide +kernel)) (ax_inT 2 67 (by decide +kernel)) miX6 (by have h := hT43; show ax_top G43 + 1 ≤ ax_top G + 638; omega) (by have h := hU43; show ax_used G43 + 4 ≤ ax_used G + 10137; omega) (dk ddX10_init_p1 3 rfl) ?_
  refine x_dup C (dk ddX10_init_p1 4 rfl) rfl ?_
  refine x_callI C (As := []) (k_X6_init l D T o (d - 1) (ax_new G43 14 0 4) (ax_z I41p (ax_top G43) 0) (ax_z L41p (ax_top G43) 0) (ax_top G43) rfl (ax_new_K G43 14 0 4) (ax_new_N G43 14 0 4) (ax_z_eq _ _ _) (ax_z_eq _ _ _) (by omega)) mlX10_97 ⟨by show d - 1 + 1 ≤ d; omega, by show 40 * (d - 1 + 1) ≤ 40 * d; omega⟩ ⟨by have h := hT43; show ax_top G43 + 1 + 1 ≤ ax_top G + 638; omega, by have h := hU43; show ax_used G43 + 4 + 3 ≤ ax_used G + 10137; omega⟩ rfl (Nat.le_of_ble_eq_true rfl) (dk ddX10_init_p1 5 rfl) ?_
  rintro v_ G43p I43p L43p ⟨rfl, hp⟩
  have hq := hB43.obj hp
  clear hp
  have hB44 : ax_Bt G I L a (ax_used G + 10123) tX10_43 iX10_23 G43p I43p L43p := hq
  have hL44 : List.length tX10_43 = 635 := by decide +kernel
  have hT44 : ax_top G43p = a + 635 := by have h := hB44.1; rw [hL44] at h; exact h
  have hU44 : ax_used G43p = ax_used G + 10123 := hB44.2.1
  clear hL44
  refine x_aast C (t := 6) (ci := 6) (n := 4) (i := 1) (r := (RX6, TX6, 4)) (by have h := hT44; show a + 482 < ax_top G43p; omega) (show ax_K G43p (a + 482) = 6 from (hB44.2.2.1 482 (6, 4, [(0, 631)]) (by decide +kernel)).1) (hB44.2.2.1 482 (6, 4, [(0, 631)]) (by decide +kernel)).2.1 (by decide) (by decide) rfl rfl (by have h := hT44; have h2 := hT43; omega) (by rw [hT43]; exact (hB44.2.2.1 633 (14, 0, [(1, 634)]) (by decide +kernel)).1) (by decide) (by decide) (dk ddX10_init_p1 6 rfl) ?_
  have h_ := hB44.ref (j := 482) (k := 1) (b := List.length tX10_42) (x := (6, 4, [(0, 631)])) (by decide +kernel) (by decide +kernel)
  rw [← hB43.1] at h_
  have hB45 : ax_Bt G I L a (ax_used G + 10123) tX10_44 iX10_23 (ax_gR G43p (a + 482) 1 (some (ax_top G43))) I43p L43p := h_
  generalize ax_gR G43p (a + 482) 1 (some (ax_top G43)) = G45 at hB45 ⊢
  have hL45 : List.length tX10_44 = 635 := by decide +kernel
  have hT45 : ax_top G45 = a + 635 := by have h := hB45.1; rw [hL45] at h; exact h
  have hU45 : ax_used G45 = ax_used G + 10123 := hB45.2.1
  clear hL45
  clear h_ hq
  clear hB43 hT43 hU43 hB44 hT44 hU44
  refine x_iinc C (v := nI 2) (lv' := [(1, .int (nI 2)), (0, .ref a)]) (dk ddX10_init_p1 7 rfl) rfl (by decide) (by decide) rfl ?_
  refine x_goto C (tgt := 201) (dk ddX10_init_p1 8 rfl) (by decide) ?_
  refine x_iload_n C (dk ddX10_init 97 rfl) rfl ?_
  refine x_iconst C (v := nI 4) (dk ddX10_init 98 rfl) (by decide) ?_
  refine x_icmp_ge C (tgt := 225) (dk ddX10_init 99 rfl) (by decide) (fun h_ => absurd h_ (by decide)) (fun h_ => ?_)
  clear h_
  refine x_aload_n C (dk ddX10_init_p1 0 rfl) rfl ?_
  refine x_getr C flX10_52 rfl (by have h := hT45; show a < ax_top G45; omega) (show ax_K G45 a = 8 + 10 from (hB45.2.2.1 0 (18, 0, [(16, 622), (15, 621), (14, 619), (13, 617), (12, 615), (11, 606), (10, 597), (9, 540), (8, 483), (7, 482), (6, 481), (5, 361), (4, 311), (3, 29), (1, 15), (0, 1)]) (by decide +kernel)).1) (show ax_R G45 a 7 = some (a + 482) from (hB45.2.2.1 0 (18, 0, [(16, 622), (15, 621), (14, 619), (13, 617), (12, 615), (11, 606), (10, 597), (9, 540), (8, 483), (7, 482), (6, 481), (5, 361), (4, 311), (3, 29), (1, 15), (0, 1)]) (by decide +kernel)).2.2 (7, 482) (by decide)) (dk ddX10_init_p1 1 rfl) ?_
  refine x_iload_n C (dk ddX10_init_p1 2 rfl) rfl ?_
  refine x_new C (ci := 6) (q0 := (RX6, TX6, 4)) (tyf := tyX6) rfl cw6 tyX6_ok dfX6 (ax_inT 2 29 (by decide +kernel)) (ax_inT 2 67 (by decide +kernel)) miX6 (by have h := hT45; show ax_top G45 + 1 ≤ ax_top G + 638; omega) (by have h := hU45; show ax_used G45 + 4 ≤ ax_used G + 10137; omega) (dk ddX10_init_p1 3 rfl) ?_
  refine x_dup C (dk ddX10_init_p1 4 rfl) rfl ?_
  refine x_callI C (As := []) (k_X6_init l D T o (d - 1) (ax_new G45 14 0 4) (ax_z I43p (ax_top G45) 0) (ax_z L43p (ax_top G45) 0) (ax_top G45) rfl (ax_new_K G45 14 0 4) (ax_new_N G45 14 0 4) (ax_z_eq _ _ _) (ax_z_eq _ _ _) (by omega)) mlX10_97 ⟨by show d - 1 + 1 ≤ d; omega, by show 40 * (d - 1 + 1) ≤ 40 * d; omega⟩ ⟨by have h := hT45; show ax_top G45 + 1 + 1 ≤ ax_top G + 638; omega, by have h := hU45; show ax_used G45 + 4 + 3 ≤ ax_used G + 10137; omega⟩ rfl (Nat.le_of_ble_eq_true rfl) (dk ddX10_init_p1 5 rfl) ?_
  rintro v_ G45p I45p L45p ⟨rfl, hp⟩
  have hq := hB45.obj hp
  clear hp
  have hB46 : ax_Bt G I L a (ax_used G + 10130) tX10_45 iX10_24 G45p I45p L45p := hq
  have hL46 : List.length tX10_45 = 637 := by decide +kernel
  have hT46 : ax_top G45p = a + 637 := by have h := hB46.1; rw [hL46] at h; exact h
  have hU46 : ax_used G45p = ax_used G + 10130 := hB46.2.1
  clear hL46
  refine x_aast C (t := 6) (ci := 6) (n := 4) (i := 2) (r := (RX6, TX6, 4)) (by have h := hT46; show a + 482 < ax_top G45p; omega) (show ax_K G45p (a + 482) = 6 from (hB46.2.2.1 482 (6, 4, [(1, 633), (0, 631)]) (by decide +kernel)).1) (hB46.2.2.1 482 (6, 4, [(1, 633), (0, 631)]) (by decide +kernel)).2.1 (by decide) (by decide) rfl rfl (by have h := hT46; have h2 := hT45; omega) (by rw [hT45]; exact (hB46.2.2.1 635 (14, 0, [(1, 636)]) (by decide +kernel)).1) (by decide) (by decide) (dk ddX10_init_p1 6 rfl) ?_
  have h_ := hB46.ref (j := 482) (k := 2) (b := List.length tX10_44) (x := (6, 4, [(1, 633), (0, 631)])) (by decide +kernel) (by decide +kernel)
  rw [← hB45.1] at h_
  have hB47 : ax_Bt G I L a (ax_used G + 10130) tX10_46 iX10_24 (ax_gR G45p (a + 482) 2 (some (ax_top G45))) I45p L45p := h_
  generalize ax_gR G45p (a + 482) 2 (some (ax_top G45)) = G47 at hB47 ⊢
  have hL47 : List.length tX10_46 = 637 := by decide +kernel
  have hT47 : ax_top G47 = a + 637 := by have h := hB47.1; rw [hL47] at h; exact h
  have hU47 : ax_used G47 = ax_used G + 10130 := hB47.2.1
  clear hL47
  clear h_ hq
  clear hB45 hT45 hU45 hB46 hT46 hU46
  refine x_iinc C (v := nI 3) (lv' := [(1, .int (nI 3)), (0, .ref a)]) (dk ddX10_init_p1 7 rfl) rfl (by decide) (by decide) rfl ?_
  refine x_goto C (tgt := 201) (dk ddX10_init_p1 8 rfl) (by decide) ?_
  refine x_iload_n C (dk ddX10_init 97 rfl) rfl ?_
  refine x_iconst C (v := nI 4) (dk ddX10_init 98 rfl) (by decide) ?_
  refine x_icmp_ge C (tgt := 225) (dk ddX10_init 99 rfl) (by decide) (fun h_ => absurd h_ (by decide)) (fun h_ => ?_)
  clear h_
  refine x_aload_n C (dk ddX10_init_p1 0 rfl) rfl ?_
  refine x_getr C flX10_52 rfl (by have h := hT47; show a < ax_top G47; omega) (show ax_K G47 a = 8 + 10 from (hB47.2.2.1 0 (18, 0, [(16, 622), (15, 621), (14, 619), (13, 617), (12, 615), (11, 606), (10, 597), (9, 540), (8, 483), (7, 482), (6, 481), (5, 361), (4, 311), (3, 29), (1, 15), (0, 1)]) (by decide +kernel)).1) (show ax_R G47 a 7 = some (a + 482) from (hB47.2.2.1 0 (18, 0, [(16, 622), (15, 621), (14, 619), (13, 617), (12, 615), (11, 606), (10, 597), (9, 540), (8, 483), (7, 482), (6, 481), (5, 361), (4, 311), (3, 29), (1, 15), (0, 1)]) (by decide +kernel)).2.2 (7, 482) (by decide)) (dk ddX10_init_p1 1 rfl) ?_
  refine x_iload_n C (dk ddX10_init_p1 2 rfl) rfl ?_
  refine x_new C (ci := 6) (q0 := (RX6, TX6, 4)) (tyf := tyX6) rfl cw6 tyX6_ok dfX6 (ax_inT 2 29 (by decide +kernel)) (ax_inT 2 67 (by decide +kernel)) miX6 (by have h := hT47; show ax_top G47 + 1 ≤ ax_top G + 638; omega) (by have h := hU47; show ax_used G47 + 4 ≤ ax_used G + 10137; omega) (dk ddX10_init_p1 3 rfl) ?_
  refine x_dup C (dk ddX10_init_p1 4 rfl) rfl ?_
  refine x_callI C (As := []) (k_X6_init l D T o (d - 1) (ax_new G47 14 0 4) (ax_z I45p (ax_top G47) 0) (ax_z L45p (ax_top G47) 0) (ax_top G47) rfl (ax_new_K G47 14 0 4) (ax_new_N G47 14 0 4) (ax_z_eq _ _ _) (ax_z_eq _ _ _) (by omega)) mlX10_97 ⟨by show d - 1 + 1 ≤ d; omega, by show 40 * (d - 1 + 1) ≤ 40 * d; omega⟩ ⟨by have h := hT47; show ax_top G47 + 1 + 1 ≤ ax_top G + 638; omega, by have h := hU47; show ax_used G47 + 4 + 3 ≤ ax_used G + 10137; omega⟩ rfl (Nat.le_of_ble_eq_true rfl) (dk ddX10_init_p1 5 rfl) ?_
  rintro v_ G47p I47p L47p ⟨rfl, hp⟩
  have hq := hB47.obj hp
  clear hp
  have hB48 : ax_Bt G I L a (ax_used G + 10137) tX10_47 iX10_25 G47p I47p L47p := hq
  have hL48 : List.length tX10_47 = 639 := by decide +kernel
  have hT48 : ax_top G47p = a + 639 := by have h := hB48.1; rw [hL48] at h; exact h
  have hU48 : ax_used G47p = ax_used G + 10137 := hB48.2.1
  clear hL48
  refine x_aast C (t := 6) (ci := 6) (n := 4) (i := 3) (r := (RX6, TX6, 4)) (by have h := hT48; show a + 482 < ax_top G47p; omega) (show ax_K G47p (a + 482) = 6 from (hB48.2.2.1 482 (6, 4, [(2, 635), (1, 633), (0, 631)]) (by decide +kernel)).1) (hB48.2.2.1 482 (6, 4, [(2, 635), (1, 633), (0, 631)]) (by decide +kernel)).2.1 (by decide) (by decide) rfl rfl (by have h := hT48; have h2 := hT47; omega) (by rw [hT47]; exact (hB48.2.2.1 637 (14, 0, [(1, 638)]) (by decide +kernel)).1) (by decide) (by decide) (dk ddX10_init_p1 6 rfl) ?_
  have h_ := hB48.ref (j := 482) (k := 3) (b := List.length tX10_46) (x := (6, 4, [(2, 635), (1, 633), (0, 631)])) (by decide +kernel) (by decide +kernel)
  rw [← hB47.1] at h_
  have hB49 : ax_Bt G I L a (ax_used G + 10137) tX10_48 iX10_25 (ax_gR G47p (a + 482) 3 (some (ax_top G47))) I47p L47p := h_
  generalize ax_gR G47p (a + 482) 3 (some (ax_top G47)) = G49 at hB49 ⊢
  have hL49 : List.length tX10_48 = 639 := by decide +kernel
  have hT49 : ax_top G49 = a + 639 := by have h := hB49.1; rw [hL49] at h; exact h
  have hU49 : ax_used G49 = ax_used G + 10137 := hB49.2.1
  clear hL49
  clear h_ hq
  clear hB47 hT47 hU47 hB48 hT48 hU48
  refine x_iinc C (v := nI 4) (lv' := [(1, .int (nI 4)), (0, .ref a)]) (dk ddX10_init_p1 7 rfl) rfl (by decide) (by decide) rfl ?_
  refine x_goto C (tgt := 201) (dk ddX10_init_p1 8 rfl) (by decide) ?_
  refine x_iload_n C (dk ddX10_init 97 rfl) rfl ?_
  refine x_iconst C (v := nI 4) (dk ddX10_init 98 rfl) (by decide) ?_
  refine x_icmp_ge C (tgt := 225) (dk ddX10_init 99 rfl) (by decide) (fun h_ => ?_) (fun h_ => absurd (by decide) h_)
  clear h_
  exact x_vret C rfl ⟨rfl, hB49⟩ (by have h := hT49; show ax_top G49 = ax_top G + 638; omega) hU49 (dk ddX10_init_p1 9 rfl)

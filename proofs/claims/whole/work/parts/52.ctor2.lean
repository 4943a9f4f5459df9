/-! ===== constructors of objects within objects ===== -/
theorem ax_Bt.obj {G0 G : ax_G} {I0 I : ax_I} {L0 L : ax_L} {a us : Nat} {T : ax_Tb} {C : List (Nat → Int32)} {k nf us2 : Nat} {T2 : ax_Tb} {C2 : List (Nat → Int32)} {G1 : ax_G} {I1 : ax_I} {L1 : ax_L} (h : ax_Bt G0 I0 L0 a us T C G I L)
    (h2 : ax_Bt (ax_new G k 0 nf) (ax_z I (ax_top G) 0) (ax_z L (ax_top G) 0) (ax_top G) (ax_used (ax_new G k 0 nf) + us2) T2 C2 G1 I1 L1) : ax_Bt G0 I0 L0 a (us + nf + us2) (T ++ ax_shf T.length T2) (C ++ C2) G1 I1 L1 := by
  have hn := h.new (k := k) (n := 0) (sl := nf)
  have e := h.1
  have eu := h.2.1
  have hc := h.2.2.2.2.2.1
  rw [show ax_used (ax_new G k 0 nf) = us + nf by rw [ax_new_used, eu]] at h2
  generalize ax_new G k 0 nf = Gn at hn h2
  generalize ax_z I (ax_top G) 0 = In at hn h2
  generalize ax_z L (ax_top G) 0 = Ln at hn h2
  rw [e] at h2
  have h3 := hn.sub (p := T.length) (by rw [List.length_append]; rfl) h2
  rw [List.take_left] at h3
  rw [show (C ++ [fun _ : Nat => (0 : Int32)]).take T.length = C by rw [← hc]; exact List.take_left] at h3
  exact h3
theorem dfX0 : ∀ k, k < 7 → defaultValue (tyX0 k) = bif ax_ty 0 k then .null else .int 0 := by
  intro k hk
  revert k
  decide +kernel
theorem dfX1 : ∀ k, k < 3 → defaultValue (tyX1 k) = bif ax_ty 1 k then .null else .int 0 := by
  intro k hk
  revert k
  decide +kernel
theorem dfX2 : ∀ k, k < 3 → defaultValue (tyX2 k) = bif ax_ty 2 k then .null else .int 0 := by
  intro k hk
  revert k
  decide +kernel
theorem dfX3 : ∀ k, k < 8 → defaultValue (tyX3 k) = bif ax_ty 3 k then .null else .int 0 := by
  intro k hk
  revert k
  decide +kernel
theorem dfX4 : ∀ k, k < 2 → defaultValue (tyX4 k) = bif ax_ty 4 k then .null else .int 0 := by
  intro k hk
  revert k
  decide +kernel
theorem dfX5 : ∀ k, k < 3 → defaultValue (tyX5 k) = bif ax_ty 5 k then .null else .int 0 := by
  intro k hk
  revert k
  decide +kernel
theorem dfX6 : ∀ k, k < 4 → defaultValue (tyX6 k) = bif ax_ty 6 k then .null else .int 0 := by
  intro k hk
  revert k
  decide +kernel
theorem dfX7 : ∀ k, k < 14 → defaultValue (tyX7 k) = bif ax_ty 7 k then .null else .int 0 := by
  intro k hk
  revert k
  decide +kernel
theorem dfX8 : ∀ k, k < 4 → defaultValue (tyX8 k) = bif ax_ty 8 k then .null else .int 0 := by
  intro k hk
  revert k
  decide +kernel
theorem dfX9 : ∀ k, k < 10 → defaultValue (tyX9 k) = bif ax_ty 9 k then .null else .int 0 := by
  intro k hk
  revert k
  decide +kernel
def tX2_0 : ax_Tb := [(10, 0, [])]
def iX2_0 : List (Nat → Int32) := [fun _ => 0]
def tX2_1 : ax_Tb := ax_mT tX2_0 6 6 6
def iX2_1 : List (Nat → Int32) := ax_mC iX2_0 6
def tX2_2 : ax_Tb := ax_addr tX2_1 0 0 (List.length tX2_0)
def tX2_3 : ax_Tb := tX2_2 ++ [(2, 6, [])]
def iX2_2 : List (Nat → Int32) := iX2_1 ++ [fun _ => 0]
def tX2_4 : ax_Tb := ax_addr tX2_3 0 1 (List.length tX2_2)
def iX2_3 : List (Nat → Int32) := List.modify iX2_2 0 (fun f i => if i = 2 then nI 0 else f i)
abbrev tX2 : ax_Tb := tX2_4
abbrev iX2 : List (Nat → Int32) := iX2_3
set_option maxHeartbeats 4000000 in
set_option maxRecDepth 20000 in
/-- Lattice -/
theorem k_X2_init (l : Launch) (D : va_G) (T : Nat → ClassId) (o d : Nat) (G : ax_G) (I : ax_I) (L : ax_L) (a : Nat) (ht : ax_top G = a + 1) (hK : ax_K G a = 8 + 2) (hN : ax_N G a = 0) (hI : I a = fun _ => 0) (hL : L a = fun _ => 0) (hd : 2 ≤ d) : ax_Con l D T o yX2_init cX2_init 1 none d 8 48 [.ref a] G I L (fun v G' I' L' => v = none ∧ ax_Bt G I L a (ax_used G + 48) tX2 iX2 G' I' L') := by
  refine ax_enter (by decide +kernel) (Nat.le_of_ble_eq_true rfl) ?_
  intro p_ e_ s_ m_ args_ below_ meth_ c_ C _
  refine x_lvs (lv' := [(0, .ref a)]) rfl ?_
  have hB0 : ax_Bt G I L a (ax_used G + 0) tX2_0 iX2_0 G I L := ax_Bt.start ht hK hN hI hL
  have hL0 : List.length tX2_0 = 1 := by decide +kernel
  have hT0 : ax_top G = a + 1 := by have h := hB0.1; rw [hL0] at h; exact h
  have hU0 : ax_used G = ax_used G + 0 := hB0.2.1
  clear hL0
  refine x_aload_n C (dk ddX2_init 0 rfl) rfl ?_
  refine x_obj C (ax_inT 1 197 (by decide +kernel)) (ax_inT 1 22 (by decide +kernel)) (ax_inC 1 23 rfl) ⟨by show 1 ≤ d; omega, by show 40 ≤ 40 * d; omega⟩ (Nat.le_of_ble_eq_true rfl) (dk ddX2_init 1 rfl) ?_
  refine x_aload_n C (dk ddX2_init 2 rfl) rfl ?_
  refine x_bipush C (v := nI 6) (dk ddX2_init 3 rfl) (by decide) ?_
  refine x_bipush C (v := nI 6) (dk ddX2_init 4 rfl) (by decide) ?_
  refine x_mnaM C (N := 6) (M := 6) (ax_inT 1 198 (by decide +kernel)) (ax_inT 1 199 (by decide +kernel)) (ax_inT 1 147 (by decide +kernel)) (by decide) (by decide) (by have h := hT0; show ax_top G + (1 + 6) ≤ ax_top G + 8; omega) (by have h := hU0; show ax_used G + (6 + 6 * 6) ≤ ax_used G + 48; omega) (dk ddX2_init 5 rfl) ?_
  have hN_ := hB0.mna 6 6 6
  have hB1 : ax_Bt G I L a (ax_used G + 42) tX2_1 iX2_1 (ax_mG G 6 6 6) (ax_mZ I G 6 6 0 6) (ax_mZ L G 6 6 0 6) := hN_
  generalize ax_mG G 6 6 6 = G1 at hB1 ⊢
  generalize ax_mZ I G 6 6 0 6 = I1 at hB1 ⊢
  generalize ax_mZ L G 6 6 0 6 = L1 at hB1 ⊢
  have hL1 : List.length tX2_1 = 8 := by decide +kernel
  have hT1 : ax_top G1 = a + 8 := by have h := hB1.1; rw [hL1] at h; exact h
  have hU1 : ax_used G1 = ax_used G + 42 := hB1.2.1
  clear hL1
  clear hN_
  refine x_putrF C flX2_11 fw2 rfl rfl rfl rfl (by have h := hT1; show a < ax_top G1; omega) (show ax_K G1 a = 8 + 2 from (hB1.2.2.1 0 (10, 0, []) (by decide +kernel)).1) (fun _ => rfl) (fun _ => rfl) (dk ddX2_init 6 rfl) ?_
  have h_ := hB1.ref (j := 0) (k := 0) (b := List.length tX2_0) (x := (10, 0, [])) (by decide +kernel) (by decide +kernel)
  rw [← hB0.1] at h_
  have hB2 : ax_Bt G I L a (ax_used G + 42) tX2_2 iX2_1 (ax_gR G1 a 0 (some (ax_top G))) I1 L1 := h_
  generalize ax_gR G1 a 0 (some (ax_top G)) = G2 at hB2 ⊢
  have hL2 : List.length tX2_2 = 8 := by decide +kernel
  have hT2 : ax_top G2 = a + 8 := by have h := hB2.1; rw [hL2] at h; exact h
  have hU2 : ax_used G2 = ax_used G + 42 := hB2.2.1
  clear hL2
  clear h_
  clear hB0 hT0 hU0 hB1 hT1 hU1
  refine x_aload_n C (dk ddX2_init 7 rfl) rfl ?_
  refine x_bipush C (v := nI 6) (dk ddX2_init 8 rfl) (by decide) ?_
  refine x_nal C (by decide) (by have h := hT2; show ax_top G2 + 1 ≤ ax_top G + 8; omega) (by have h := hU2; show ax_used G2 + 6 ≤ ax_used G + 48; omega) (dk ddX2_init 9 rfl) ?_
  have hN_ := hB2.new (k := 2) (n := 6) (sl := 6)
  have hB3 : ax_Bt G I L a (ax_used G + 48) tX2_3 iX2_2 (ax_new G2 2 6 6) (ax_z I1 (ax_top G2) 0) (ax_z L1 (ax_top G2) 0) := hN_
  generalize ax_new G2 2 6 6 = G3 at hB3 ⊢
  generalize ax_z I1 (ax_top G2) 0 = I3 at hB3 ⊢
  generalize ax_z L1 (ax_top G2) 0 = L3 at hB3 ⊢
  have hL3 : List.length tX2_3 = 9 := by decide +kernel
  have hT3 : ax_top G3 = a + 9 := by have h := hB3.1; rw [hL3] at h; exact h
  have hU3 : ax_used G3 = ax_used G + 48 := hB3.2.1
  clear hL3
  clear hN_
  refine x_putrF C flX2_16 fw2 rfl rfl rfl rfl (by have h := hT3; show a < ax_top G3; omega) (show ax_K G3 a = 8 + 2 from (hB3.2.2.1 0 (10, 0, [(0, 1)]) (by decide +kernel)).1) (fun _ => rfl) (fun _ => rfl) (dk ddX2_init 10 rfl) ?_
  have h_ := hB3.ref (j := 0) (k := 1) (b := List.length tX2_2) (x := (10, 0, [(0, 1)])) (by decide +kernel) (by decide +kernel)
  rw [← hB2.1] at h_
  have hB4 : ax_Bt G I L a (ax_used G + 48) tX2_4 iX2_2 (ax_gR G3 a 1 (some (ax_top G2))) I3 L3 := h_
  generalize ax_gR G3 a 1 (some (ax_top G2)) = G4 at hB4 ⊢
  have hL4 : List.length tX2_4 = 9 := by decide +kernel
  have hT4 : ax_top G4 = a + 9 := by have h := hB4.1; rw [hL4] at h; exact h
  have hU4 : ax_used G4 = ax_used G + 48 := hB4.2.1
  clear hL4
  clear h_
  clear hB2 hT2 hU2 hB3 hT3 hU3
  refine x_aload_n C (dk ddX2_init 11 rfl) rfl ?_
  refine x_iconst C (v := nI 0) (dk ddX2_init 12 rfl) (by decide) ?_
  refine x_puti C flX2_20 fw2 rfl rfl (by have h := hT4; show a < ax_top G4; omega) (show ax_K G4 a = 8 + 2 from (hB4.2.2.1 0 (10, 0, [(1, 8), (0, 1)]) (by decide +kernel)).1) rfl rfl (dk ddX2_init 13 rfl) ?_
  have hB5 : ax_Bt G I L a (ax_used G + 48) tX2_4 iX2_3 G4 (ax_u I3 a 2 (nI 0)) L3 := hB4.int (j := 0) (k := 2) (v := (nI 0)) (by decide +kernel)
  generalize ax_u I3 a 2 (nI 0) = I5 at hB5 ⊢
  have hL5 : List.length tX2_4 = 9 := by decide +kernel
  have hT5 : ax_top G4 = a + 9 := by have h := hB5.1; rw [hL5] at h; exact h
  have hU5 : ax_used G4 = ax_used G + 48 := hB5.2.1
  clear hL5
  exact x_vret C rfl ⟨rfl, hB5⟩ (by have h := hT5; show ax_top G4 = ax_top G + 8; omega) hU5 (dk ddX2_init 14 rfl)
def tX3_0 : ax_Tb := [(11, 0, [])]
def iX3_0 : List (Nat → Int32) := [fun _ => 0]
def tX3_1 : ax_Tb := tX3_0 ++ ax_shf (List.length tX3_0) tX2
def iX3_1 : List (Nat → Int32) := iX3_0 ++ iX2
def tX3_2 : ax_Tb := ax_addr tX3_1 0 0 (List.length tX3_0)
def tX3_3 : ax_Tb := tX3_2 ++ ax_shf (List.length tX3_2) tX2
def iX3_2 : List (Nat → Int32) := iX3_1 ++ iX2
def tX3_4 : ax_Tb := ax_addr tX3_3 0 1 (List.length tX3_2)
def tX3_5 : ax_Tb := tX3_4 ++ ax_shf (List.length tX3_4) tX2
def iX3_3 : List (Nat → Int32) := iX3_2 ++ iX2
def tX3_6 : ax_Tb := ax_addr tX3_5 0 2 (List.length tX3_4)
def tX3_7 : ax_Tb := tX3_6 ++ ax_shf (List.length tX3_6) tX2
def iX3_4 : List (Nat → Int32) := iX3_3 ++ iX2
def tX3_8 : ax_Tb := ax_addr tX3_7 0 3 (List.length tX3_6)
def tX3_9 : ax_Tb := tX3_8 ++ ax_shf (List.length tX3_8) tX2
def iX3_5 : List (Nat → Int32) := iX3_4 ++ iX2
def tX3_10 : ax_Tb := ax_addr tX3_9 0 4 (List.length tX3_8)
def tX3_11 : ax_Tb := tX3_10 ++ ax_shf (List.length tX3_10) tX2
def iX3_6 : List (Nat → Int32) := iX3_5 ++ iX2
def tX3_12 : ax_Tb := ax_addr tX3_11 0 5 (List.length tX3_10)
def tX3_13 : ax_Tb := tX3_12 ++ [(2, 6, [])]
def iX3_7 : List (Nat → Int32) := iX3_6 ++ [fun _ => 0]
def tX3_14 : ax_Tb := ax_addr tX3_13 0 6 (List.length tX3_12)
def tX3_15 : ax_Tb := tX3_14 ++ [(2, 6, [])]
def iX3_8 : List (Nat → Int32) := iX3_7 ++ [fun _ => 0]
def tX3_16 : ax_Tb := ax_addr tX3_15 0 7 (List.length tX3_14)
abbrev tX3 : ax_Tb := tX3_16
abbrev iX3 : List (Nat → Int32) := iX3_8
set_option maxHeartbeats 4000000 in
set_option maxRecDepth 20000 in
/-- MapWork -/
theorem k_X3_init (l : Launch) (D : va_G) (T : Nat → ClassId) (o d : Nat) (G : ax_G) (I : ax_I) (L : ax_L) (a : Nat) (ht : ax_top G = a + 1) (hK : ax_K G a = 8 + 3) (hN : ax_N G a = 0) (hI : I a = fun _ => 0) (hL : L a = fun _ => 0) (hd : 3 ≤ d) : ax_Con l D T o yX3_init cX3_init 1 none d 56 318 [.ref a] G I L (fun v G' I' L' => v = none ∧ ax_Bt G I L a (ax_used G + 318) tX3 iX3 G' I' L') := by
  refine ax_enter (by decide +kernel) (Nat.le_of_ble_eq_true rfl) ?_
  intro p_ e_ s_ m_ args_ below_ meth_ c_ C _
  refine x_lvs (lv' := [(0, .ref a)]) rfl ?_
  have hB0 : ax_Bt G I L a (ax_used G + 0) tX3_0 iX3_0 G I L := ax_Bt.start ht hK hN hI hL
  have hL0 : List.length tX3_0 = 1 := by decide +kernel
  have hT0 : ax_top G = a + 1 := by have h := hB0.1; rw [hL0] at h; exact h
  have hU0 : ax_used G = ax_used G + 0 := hB0.2.1
  clear hL0
  refine x_aload_n C (dk ddX3_init 0 rfl) rfl ?_
  refine x_obj C (ax_inT 1 191 (by decide +kernel)) (ax_inT 1 22 (by decide +kernel)) (ax_inC 1 23 rfl) ⟨by show 1 ≤ d; omega, by show 40 ≤ 40 * d; omega⟩ (Nat.le_of_ble_eq_true rfl) (dk ddX3_init 1 rfl) ?_
  refine x_aload_n C (dk ddX3_init 2 rfl) rfl ?_
  refine x_new C (ci := 2) (q0 := (RX2, TX2, 3)) (tyf := tyX2) rfl cw2 tyX2_ok dfX2 (ax_inT 1 192 (by decide +kernel)) (ax_inT 1 193 (by decide +kernel)) miX2 (by have h := hT0; show ax_top G + 1 ≤ ax_top G + 56; omega) (by have h := hU0; show ax_used G + 3 ≤ ax_used G + 318; omega) (dk ddX3_init 3 rfl) ?_
  refine x_dup C (dk ddX3_init 4 rfl) rfl ?_
  refine x_callI C (As := []) (k_X2_init l D T o (d - 1) (ax_new G 10 0 3) (ax_z I (ax_top G) 0) (ax_z L (ax_top G) 0) (ax_top G) rfl (ax_new_K G 10 0 3) (ax_new_N G 10 0 3) (ax_z_eq _ _ _) (ax_z_eq _ _ _) (by omega)) mlX3_11 ⟨by show d - 1 + 1 ≤ d; omega, by show 40 * (d - 1 + 1) ≤ 40 * d; omega⟩ ⟨by have h := hT0; show ax_top G + 1 + 8 ≤ ax_top G + 56; omega, by have h := hU0; show ax_used G + 3 + 48 ≤ ax_used G + 318; omega⟩ rfl (Nat.le_of_ble_eq_true rfl) (dk ddX3_init 5 rfl) ?_
  rintro v_ G0p I0p L0p ⟨rfl, hp⟩
  have hq := hB0.obj hp
  clear hp
  have hB1 : ax_Bt G I L a (ax_used G + 51) tX3_1 iX3_1 G0p I0p L0p := hq
  have hL1 : List.length tX3_1 = 10 := by decide +kernel
  have hT1 : ax_top G0p = a + 10 := by have h := hB1.1; rw [hL1] at h; exact h
  have hU1 : ax_used G0p = ax_used G + 51 := hB1.2.1
  clear hL1
  refine x_putrF C flX3_12 fw3 rfl rfl rfl rfl (by have h := hT1; show a < ax_top G0p; omega) (show ax_K G0p a = 8 + 3 from (hB1.2.2.1 0 (11, 0, []) (by decide +kernel)).1) (fun _ => rfl) (fun _ => rfl) (dk ddX3_init 6 rfl) ?_
  have h_ := hB1.ref (j := 0) (k := 0) (b := List.length tX3_0) (x := (11, 0, [])) (by decide +kernel) (by decide +kernel)
  rw [← hB0.1] at h_
  have hB2 : ax_Bt G I L a (ax_used G + 51) tX3_2 iX3_1 (ax_gR G0p a 0 (some (ax_top G))) I0p L0p := h_
  generalize ax_gR G0p a 0 (some (ax_top G)) = G2 at hB2 ⊢
  have hL2 : List.length tX3_2 = 10 := by decide +kernel
  have hT2 : ax_top G2 = a + 10 := by have h := hB2.1; rw [hL2] at h; exact h
  have hU2 : ax_used G2 = ax_used G + 51 := hB2.2.1
  clear hL2
  clear h_ hq
  clear hB0 hT0 hU0 hB1 hT1 hU1
  refine x_aload_n C (dk ddX3_init 7 rfl) rfl ?_
  refine x_new C (ci := 2) (q0 := (RX2, TX2, 3)) (tyf := tyX2) rfl cw2 tyX2_ok dfX2 (ax_inT 1 192 (by decide +kernel)) (ax_inT 1 193 (by decide +kernel)) miX2 (by have h := hT2; show ax_top G2 + 1 ≤ ax_top G + 56; omega) (by have h := hU2; show ax_used G2 + 3 ≤ ax_used G + 318; omega) (dk ddX3_init 8 rfl) ?_
  refine x_dup C (dk ddX3_init 9 rfl) rfl ?_
  refine x_callI C (As := []) (k_X2_init l D T o (d - 1) (ax_new G2 10 0 3) (ax_z I0p (ax_top G2) 0) (ax_z L0p (ax_top G2) 0) (ax_top G2) rfl (ax_new_K G2 10 0 3) (ax_new_N G2 10 0 3) (ax_z_eq _ _ _) (ax_z_eq _ _ _) (by omega)) mlX3_11 ⟨by show d - 1 + 1 ≤ d; omega, by show 40 * (d - 1 + 1) ≤ 40 * d; omega⟩ ⟨by have h := hT2; show ax_top G2 + 1 + 8 ≤ ax_top G + 56; omega, by have h := hU2; show ax_used G2 + 3 + 48 ≤ ax_used G + 318; omega⟩ rfl (Nat.le_of_ble_eq_true rfl) (dk ddX3_init 10 rfl) ?_
  rintro v_ G2p I2p L2p ⟨rfl, hp⟩
  have hq := hB2.obj hp
  clear hp
  have hB3 : ax_Bt G I L a (ax_used G + 102) tX3_3 iX3_2 G2p I2p L2p := hq
  have hL3 : List.length tX3_3 = 19 := by decide +kernel
  have hT3 : ax_top G2p = a + 19 := by have h := hB3.1; rw [hL3] at h; exact h
  have hU3 : ax_used G2p = ax_used G + 102 := hB3.2.1
  clear hL3
  refine x_putrF C flX3_18 fw3 rfl rfl rfl rfl (by have h := hT3; show a < ax_top G2p; omega) (show ax_K G2p a = 8 + 3 from (hB3.2.2.1 0 (11, 0, [(0, 1)]) (by decide +kernel)).1) (fun _ => rfl) (fun _ => rfl) (dk ddX3_init 11 rfl) ?_
  have h_ := hB3.ref (j := 0) (k := 1) (b := List.length tX3_2) (x := (11, 0, [(0, 1)])) (by decide +kernel) (by decide +kernel)
  rw [← hB2.1] at h_
  have hB4 : ax_Bt G I L a (ax_used G + 102) tX3_4 iX3_2 (ax_gR G2p a 1 (some (ax_top G2))) I2p L2p := h_
  generalize ax_gR G2p a 1 (some (ax_top G2)) = G4 at hB4 ⊢
  have hL4 : List.length tX3_4 = 19 := by decide +kernel
  have hT4 : ax_top G4 = a + 19 := by have h := hB4.1; rw [hL4] at h; exact h
  have hU4 : ax_used G4 = ax_used G + 102 := hB4.2.1
  clear hL4
  clear h_ hq
  clear hB2 hT2 hU2 hB3 hT3 hU3
  refine x_aload_n C (dk ddX3_init 12 rfl) rfl ?_
  refine x_new C (ci := 2) (q0 := (RX2, TX2, 3)) (tyf := tyX2) rfl cw2 tyX2_ok dfX2 (ax_inT 1 192 (by decide +kernel)) (ax_inT 1 193 (by decide +kernel)) miX2 (by have h := hT4; show ax_top G4 + 1 ≤ ax_top G + 56; omega) (by have h := hU4; show ax_used G4 + 3 ≤ ax_used G + 318; omega) (dk ddX3_init 13 rfl) ?_
  refine x_dup C (dk ddX3_init 14 rfl) rfl ?_
  refine x_callI C (As := []) (k_X2_init l D T o (d - 1) (ax_new G4 10 0 3) (ax_z I2p (ax_top G4) 0) (ax_z L2p (ax_top G4) 0) (ax_top G4) rfl (ax_new_K G4 10 0 3) (ax_new_N G4 10 0 3) (ax_z_eq _ _ _) (ax_z_eq _ _ _) (by omega)) mlX3_11 ⟨by show d - 1 + 1 ≤ d; omega, by show 40 * (d - 1 + 1) ≤ 40 * d; omega⟩ ⟨by have h := hT4; show ax_top G4 + 1 + 8 ≤ ax_top G + 56; omega, by have h := hU4; show ax_used G4 + 3 + 48 ≤ ax_used G + 318; omega⟩ rfl (Nat.le_of_ble_eq_true rfl) (dk ddX3_init 15 rfl) ?_
  rintro v_ G4p I4p L4p ⟨rfl, hp⟩
  have hq := hB4.obj hp
  clear hp
  have hB5 : ax_Bt G I L a (ax_used G + 153) tX3_5 iX3_3 G4p I4p L4p := hq
  have hL5 : List.length tX3_5 = 28 := by decide +kernel
  have hT5 : ax_top G4p = a + 28 := by have h := hB5.1; rw [hL5] at h; exact h
  have hU5 : ax_used G4p = ax_used G + 153 := hB5.2.1
  clear hL5
  refine x_putrF C flX3_21 fw3 rfl rfl rfl rfl (by have h := hT5; show a < ax_top G4p; omega) (show ax_K G4p a = 8 + 3 from (hB5.2.2.1 0 (11, 0, [(1, 10), (0, 1)]) (by decide +kernel)).1) (fun _ => rfl) (fun _ => rfl) (dk ddX3_init 16 rfl) ?_
  have h_ := hB5.ref (j := 0) (k := 2) (b := List.length tX3_4) (x := (11, 0, [(1, 10), (0, 1)])) (by decide +kernel) (by decide +kernel)
  rw [← hB4.1] at h_
  have hB6 : ax_Bt G I L a (ax_used G + 153) tX3_6 iX3_3 (ax_gR G4p a 2 (some (ax_top G4))) I4p L4p := h_
  generalize ax_gR G4p a 2 (some (ax_top G4)) = G6 at hB6 ⊢
  have hL6 : List.length tX3_6 = 28 := by decide +kernel
  have hT6 : ax_top G6 = a + 28 := by have h := hB6.1; rw [hL6] at h; exact h
  have hU6 : ax_used G6 = ax_used G + 153 := hB6.2.1
  clear hL6
  clear h_ hq
  clear hB4 hT4 hU4 hB5 hT5 hU5
  refine x_aload_n C (dk ddX3_init 17 rfl) rfl ?_
  refine x_new C (ci := 2) (q0 := (RX2, TX2, 3)) (tyf := tyX2) rfl cw2 tyX2_ok dfX2 (ax_inT 1 192 (by decide +kernel)) (ax_inT 1 193 (by decide +kernel)) miX2 (by have h := hT6; show ax_top G6 + 1 ≤ ax_top G + 56; omega) (by have h := hU6; show ax_used G6 + 3 ≤ ax_used G + 318; omega) (dk ddX3_init 18 rfl) ?_
  refine x_dup C (dk ddX3_init 19 rfl) rfl ?_
  refine x_callI C (As := []) (k_X2_init l D T o (d - 1) (ax_new G6 10 0 3) (ax_z I4p (ax_top G6) 0) (ax_z L4p (ax_top G6) 0) (ax_top G6) rfl (ax_new_K G6 10 0 3) (ax_new_N G6 10 0 3) (ax_z_eq _ _ _) (ax_z_eq _ _ _) (by omega)) mlX3_11 ⟨by show d - 1 + 1 ≤ d; omega, by show 40 * (d - 1 + 1) ≤ 40 * d; omega⟩ ⟨by have h := hT6; show ax_top G6 + 1 + 8 ≤ ax_top G + 56; omega, by have h := hU6; show ax_used G6 + 3 + 48 ≤ ax_used G + 318; omega⟩ rfl (Nat.le_of_ble_eq_true rfl) (dk ddX3_init 20 rfl) ?_
  rintro v_ G6p I6p L6p ⟨rfl, hp⟩
  have hq := hB6.obj hp
  clear hp
  have hB7 : ax_Bt G I L a (ax_used G + 204) tX3_7 iX3_4 G6p I6p L6p := hq
  have hL7 : List.length tX3_7 = 37 := by decide +kernel
  have hT7 : ax_top G6p = a + 37 := by have h := hB7.1; rw [hL7] at h; exact h
  have hU7 : ax_used G6p = ax_used G + 204 := hB7.2.1
  clear hL7
  refine x_putrF C flX3_24 fw3 rfl rfl rfl rfl (by have h := hT7; show a < ax_top G6p; omega) (show ax_K G6p a = 8 + 3 from (hB7.2.2.1 0 (11, 0, [(2, 19), (1, 10), (0, 1)]) (by decide +kernel)).1) (fun _ => rfl) (fun _ => rfl) (dk ddX3_init 21 rfl) ?_
  have h_ := hB7.ref (j := 0) (k := 3) (b := List.length tX3_6) (x := (11, 0, [(2, 19), (1, 10), (0, 1)])) (by decide +kernel) (by decide +kernel)
  rw [← hB6.1] at h_
  have hB8 : ax_Bt G I L a (ax_used G + 204) tX3_8 iX3_4 (ax_gR G6p a 3 (some (ax_top G6))) I6p L6p := h_
  generalize ax_gR G6p a 3 (some (ax_top G6)) = G8 at hB8 ⊢
  have hL8 : List.length tX3_8 = 37 := by decide +kernel
  have hT8 : ax_top G8 = a + 37 := by have h := hB8.1; rw [hL8] at h; exact h
  have hU8 : ax_used G8 = ax_used G + 204 := hB8.2.1
  clear hL8
  clear h_ hq
  clear hB6 hT6 hU6 hB7 hT7 hU7
  refine x_aload_n C (dk ddX3_init 22 rfl) rfl ?_
  refine x_new C (ci := 2) (q0 := (RX2, TX2, 3)) (tyf := tyX2) rfl cw2 tyX2_ok dfX2 (ax_inT 1 192 (by decide +kernel)) (ax_inT 1 193 (by decide +kernel)) miX2 (by have h := hT8; show ax_top G8 + 1 ≤ ax_top G + 56; omega) (by have h := hU8; show ax_used G8 + 3 ≤ ax_used G + 318; omega) (dk ddX3_init 23 rfl) ?_
  refine x_dup C (dk ddX3_init 24 rfl) rfl ?_
  refine x_callI C (As := []) (k_X2_init l D T o (d - 1) (ax_new G8 10 0 3) (ax_z I6p (ax_top G8) 0) (ax_z L6p (ax_top G8) 0) (ax_top G8) rfl (ax_new_K G8 10 0 3) (ax_new_N G8 10 0 3) (ax_z_eq _ _ _) (ax_z_eq _ _ _) (by omega)) mlX3_11 ⟨by show d - 1 + 1 ≤ d; omega, by show 40 * (d - 1 + 1) ≤ 40 * d; omega⟩ ⟨by have h := hT8; show ax_top G8 + 1 + 8 ≤ ax_top G + 56; omega, by have h := hU8; show ax_used G8 + 3 + 48 ≤ ax_used G + 318; omega⟩ rfl (Nat.le_of_ble_eq_true rfl) (dk ddX3_init 25 rfl) ?_
  rintro v_ G8p I8p L8p ⟨rfl, hp⟩
  have hq := hB8.obj hp
  clear hp
  have hB9 : ax_Bt G I L a (ax_used G + 255) tX3_9 iX3_5 G8p I8p L8p := hq
  have hL9 : List.length tX3_9 = 46 := by decide +kernel
  have hT9 : ax_top G8p = a + 46 := by have h := hB9.1; rw [hL9] at h; exact h
  have hU9 : ax_used G8p = ax_used G + 255 := hB9.2.1
  clear hL9
  refine x_putrF C flX3_27 fw3 rfl rfl rfl rfl (by have h := hT9; show a < ax_top G8p; omega) (show ax_K G8p a = 8 + 3 from (hB9.2.2.1 0 (11, 0, [(3, 28), (2, 19), (1, 10), (0, 1)]) (by decide +kernel)).1) (fun _ => rfl) (fun _ => rfl) (dk ddX3_init 26 rfl) ?_
  have h_ := hB9.ref (j := 0) (k := 4) (b := List.length tX3_8) (x := (11, 0, [(3, 28), (2, 19), (1, 10), (0, 1)])) (by decide +kernel) (by decide +kernel)
  rw [← hB8.1] at h_
  have hB10 : ax_Bt G I L a (ax_used G + 255) tX3_10 iX3_5 (ax_gR G8p a 4 (some (ax_top G8))) I8p L8p := h_
  generalize ax_gR G8p a 4 (some (ax_top G8)) = G10 at hB10 ⊢
  have hL10 : List.length tX3_10 = 46 := by decide +kernel
  have hT10 : ax_top G10 = a + 46 := by have h := hB10.1; rw [hL10] at h; exact h
  have hU10 : ax_used G10 = ax_used G + 255 := hB10.2.1
  clear hL10
  clear h_ hq
  clear hB8 hT8 hU8 hB9 hT9 hU9
  refine x_aload_n C (dk ddX3_init 27 rfl) rfl ?_
  refine x_new C (ci := 2) (q0 := (RX2, TX2, 3)) (tyf := tyX2) rfl cw2 tyX2_ok dfX2 (ax_inT 1 192 (by decide +kernel)) (ax_inT 1 193 (by decide +kernel)) miX2 (by have h := hT10; show ax_top G10 + 1 ≤ ax_top G + 56; omega) (by have h := hU10; show ax_used G10 + 3 ≤ ax_used G + 318; omega) (dk ddX3_init 28 rfl) ?_
  refine x_dup C (dk ddX3_init 29 rfl) rfl ?_
  refine x_callI C (As := []) (k_X2_init l D T o (d - 1) (ax_new G10 10 0 3) (ax_z I8p (ax_top G10) 0) (ax_z L8p (ax_top G10) 0) (ax_top G10) rfl (ax_new_K G10 10 0 3) (ax_new_N G10 10 0 3) (ax_z_eq _ _ _) (ax_z_eq _ _ _) (by omega)) mlX3_11 ⟨by show d - 1 + 1 ≤ d; omega, by show 40 * (d - 1 + 1) ≤ 40 * d; omega⟩ ⟨by have h := hT10; show ax_top G10 + 1 + 8 ≤ ax_top G + 56; omega, by have h := hU10; show ax_used G10 + 3 + 48 ≤ ax_used G + 318; omega⟩ rfl (Nat.le_of_ble_eq_true rfl) (dk ddX3_init 30 rfl) ?_
  rintro v_ G10p I10p L10p ⟨rfl, hp⟩
  have hq := hB10.obj hp
  clear hp
  have hB11 : ax_Bt G I L a (ax_used G + 306) tX3_11 iX3_6 G10p I10p L10p := hq
  have hL11 : List.length tX3_11 = 55 := by decide +kernel
  have hT11 : ax_top G10p = a + 55 := by have h := hB11.1; rw [hL11] at h; exact h
  have hU11 : ax_used G10p = ax_used G + 306 := hB11.2.1
  clear hL11
  refine x_putrF C flX3_30 fw3 rfl rfl rfl rfl (by have h := hT11; show a < ax_top G10p; omega) (show ax_K G10p a = 8 + 3 from (hB11.2.2.1 0 (11, 0, [(4, 37), (3, 28), (2, 19), (1, 10), (0, 1)]) (by decide +kernel)).1) (fun _ => rfl) (fun _ => rfl) (dk ddX3_init 31 rfl) ?_
  have h_ := hB11.ref (j := 0) (k := 5) (b := List.length tX3_10) (x := (11, 0, [(4, 37), (3, 28), (2, 19), (1, 10), (0, 1)])) (by decide +kernel) (by decide +kernel)
  rw [← hB10.1] at h_
  have hB12 : ax_Bt G I L a (ax_used G + 306) tX3_12 iX3_6 (ax_gR G10p a 5 (some (ax_top G10))) I10p L10p := h_
  generalize ax_gR G10p a 5 (some (ax_top G10)) = G12 at hB12 ⊢
  have hL12 : List.length tX3_12 = 55 := by decide +kernel
  have hT12 : ax_top G12 = a + 55 := by have h := hB12.1; rw [hL12] at h; exact h
  have hU12 : ax_used G12 = ax_used G + 306 := hB12.2.1
  clear hL12
  clear h_ hq
  clear hB10 hT10 hU10 hB11 hT11 hU11
  refine x_aload_n C (dk ddX3_init 32 rfl) rfl ?_
  refine x_bipush C (v := nI 6) (dk ddX3_init 33 rfl) (by decide) ?_
  refine x_nal C (by decide) (by have h := hT12; show ax_top G12 + 1 ≤ ax_top G + 56; omega) (by have h := hU12; show ax_used G12 + 6 ≤ ax_used G + 318; omega) (dk ddX3_init 34 rfl) ?_
  have hN_ := hB12.new (k := 2) (n := 6) (sl := 6)
  have hB13 : ax_Bt G I L a (ax_used G + 312) tX3_13 iX3_7 (ax_new G12 2 6 6) (ax_z I10p (ax_top G12) 0) (ax_z L10p (ax_top G12) 0) := hN_
  generalize ax_new G12 2 6 6 = G13 at hB13 ⊢
  generalize ax_z I10p (ax_top G12) 0 = I13 at hB13 ⊢
  generalize ax_z L10p (ax_top G12) 0 = L13 at hB13 ⊢
  have hL13 : List.length tX3_13 = 56 := by decide +kernel
  have hT13 : ax_top G13 = a + 56 := by have h := hB13.1; rw [hL13] at h; exact h
  have hU13 : ax_used G13 = ax_used G + 312 := hB13.2.1
  clear hL13
  clear hN_
  refine x_putrF C flX3_33 fw3 rfl rfl rfl rfl (by have h := hT13; show a < ax_top G13; omega) (show ax_K G13 a = 8 + 3 from (hB13.2.2.1 0 (11, 0, [(5, 46), (4, 37), (3, 28), (2, 19), (1, 10), (0, 1)]) (by decide +kernel)).1) (fun _ => rfl) (fun _ => rfl) (dk ddX3_init 35 rfl) ?_
  have h_ := hB13.ref (j := 0) (k := 6) (b := List.length tX3_12) (x := (11, 0, [(5, 46), (4, 37), (3, 28), (2, 19), (1, 10), (0, 1)])) (by decide +kernel) (by decide +kernel)
  rw [← hB12.1] at h_
  have hB14 : ax_Bt G I L a (ax_used G + 312) tX3_14 iX3_7 (ax_gR G13 a 6 (some (ax_top G12))) I13 L13 := h_
  generalize ax_gR G13 a 6 (some (ax_top G12)) = G14 at hB14 ⊢
  have hL14 : List.length tX3_14 = 56 := by decide +kernel
  have hT14 : ax_top G14 = a + 56 := by have h := hB14.1; rw [hL14] at h; exact h
  have hU14 : ax_used G14 = ax_used G + 312 := hB14.2.1
  clear hL14
  clear h_
  clear hB12 hT12 hU12 hB13 hT13 hU13
  refine x_aload_n C (dk ddX3_init 36 rfl) rfl ?_
  refine x_bipush C (v := nI 6) (dk ddX3_init 37 rfl) (by decide) ?_
  refine x_nal C (by decide) (by have h := hT14; show ax_top G14 + 1 ≤ ax_top G + 56; omega) (by have h := hU14; show ax_used G14 + 6 ≤ ax_used G + 318; omega) (dk ddX3_init 38 rfl) ?_
  have hN_ := hB14.new (k := 2) (n := 6) (sl := 6)
  have hB15 : ax_Bt G I L a (ax_used G + 318) tX3_15 iX3_8 (ax_new G14 2 6 6) (ax_z I13 (ax_top G14) 0) (ax_z L13 (ax_top G14) 0) := hN_
  generalize ax_new G14 2 6 6 = G15 at hB15 ⊢
  generalize ax_z I13 (ax_top G14) 0 = I15 at hB15 ⊢
  generalize ax_z L13 (ax_top G14) 0 = L15 at hB15 ⊢
  have hL15 : List.length tX3_15 = 57 := by decide +kernel
  have hT15 : ax_top G15 = a + 57 := by have h := hB15.1; rw [hL15] at h; exact h
  have hU15 : ax_used G15 = ax_used G + 318 := hB15.2.1
  clear hL15
  clear hN_
  refine x_putrF C flX3_37 fw3 rfl rfl rfl rfl (by have h := hT15; show a < ax_top G15; omega) (show ax_K G15 a = 8 + 3 from (hB15.2.2.1 0 (11, 0, [(6, 55), (5, 46), (4, 37), (3, 28), (2, 19), (1, 10), (0, 1)]) (by decide +kernel)).1) (fun _ => rfl) (fun _ => rfl) (dk ddX3_init 39 rfl) ?_
  have h_ := hB15.ref (j := 0) (k := 7) (b := List.length tX3_14) (x := (11, 0, [(6, 55), (5, 46), (4, 37), (3, 28), (2, 19), (1, 10), (0, 1)])) (by decide +kernel) (by decide +kernel)
  rw [← hB14.1] at h_
  have hB16 : ax_Bt G I L a (ax_used G + 318) tX3_16 iX3_8 (ax_gR G15 a 7 (some (ax_top G14))) I15 L15 := h_
  generalize ax_gR G15 a 7 (some (ax_top G14)) = G16 at hB16 ⊢
  have hL16 : List.length tX3_16 = 57 := by decide +kernel
  have hT16 : ax_top G16 = a + 57 := by have h := hB16.1; rw [hL16] at h; exact h
  have hU16 : ax_used G16 = ax_used G + 318 := hB16.2.1
  clear hL16
  clear h_
  exact x_vret C rfl ⟨rfl, hB16⟩ (by have h := hT16; show ax_top G16 = ax_top G + 56; omega) hU16 (dk ddX3_init 40 rfl)
def tX0_0 : ax_Tb := [(8, 0, [])]
def iX0_0 : List (Nat → Int32) := [fun _ => 0]
def tX0_1 : ax_Tb := tX0_0 ++ [(0, 7, [])]
def iX0_1 : List (Nat → Int32) := iX0_0 ++ [fun _ => 0]
def tX0_2 : ax_Tb := ax_addr tX0_1 0 0 (List.length tX0_0)
def tX0_3 : ax_Tb := tX0_2 ++ ax_shf (List.length tX0_2) tX3
def iX0_2 : List (Nat → Int32) := iX0_1 ++ iX3
def tX0_4 : ax_Tb := ax_addr tX0_3 0 1 (List.length tX0_2)
def tX0_5 : ax_Tb := tX0_4 ++ ax_shf (List.length tX0_4) tX3
def iX0_3 : List (Nat → Int32) := iX0_2 ++ iX3
def tX0_6 : ax_Tb := ax_addr tX0_5 0 2 (List.length tX0_4)
def tX0_7 : ax_Tb := tX0_6 ++ [(2, 6, [])]
def iX0_4 : List (Nat → Int32) := iX0_3 ++ [fun _ => 0]
def tX0_8 : ax_Tb := ax_addr tX0_7 0 3 (List.length tX0_6)
def tX0_9 : ax_Tb := tX0_8 ++ [(2, 6, [])]
def iX0_5 : List (Nat → Int32) := iX0_4 ++ [fun _ => 0]
def tX0_10 : ax_Tb := ax_addr tX0_9 0 4 (List.length tX0_8)
def tX0_11 : ax_Tb := tX0_10 ++ [(2, 6, [])]
def iX0_6 : List (Nat → Int32) := iX0_5 ++ [fun _ => 0]
def tX0_12 : ax_Tb := ax_addr tX0_11 0 5 (List.length tX0_10)
def tX0_13 : ax_Tb := tX0_12 ++ [(2, 6, [])]
def iX0_7 : List (Nat → Int32) := iX0_6 ++ [fun _ => 0]
def tX0_14 : ax_Tb := ax_addr tX0_13 0 6 (List.length tX0_12)
abbrev tX0 : ax_Tb := tX0_14
abbrev iX0 : List (Nat → Int32) := iX0_7
set_option maxHeartbeats 4000000 in
set_option maxRecDepth 20000 in
/-- Diagram -/
theorem k_X0_init (l : Launch) (D : va_G) (T : Nat → ClassId) (o d : Nat) (G : ax_G) (I : ax_I) (L : ax_L) (a : Nat) (ht : ax_top G = a + 1) (hK : ax_K G a = 8 + 0) (hN : ax_N G a = 0) (hI : I a = fun _ => 0) (hL : L a = fun _ => 0) (hd : 4 ≤ d) : ax_Con l D T o yX0_init cX0_init 1 none d 119 683 [.ref a] G I L (fun v G' I' L' => v = none ∧ ax_Bt G I L a (ax_used G + 683) tX0 iX0 G' I' L') := by
  refine ax_enter (by decide +kernel) (Nat.le_of_ble_eq_true rfl) ?_
  intro p_ e_ s_ m_ args_ below_ meth_ c_ C _
  refine x_lvs (lv' := [(0, .ref a)]) rfl ?_
  have hB0 : ax_Bt G I L a (ax_used G + 0) tX0_0 iX0_0 G I L := ax_Bt.start ht hK hN hI hL
  have hL0 : List.length tX0_0 = 1 := by decide +kernel
  have hT0 : ax_top G = a + 1 := by have h := hB0.1; rw [hL0] at h; exact h
  have hU0 : ax_used G = ax_used G + 0 := hB0.2.1
  clear hL0
  refine x_aload_n C (dk ddX0_init 0 rfl) rfl ?_
  refine x_obj C (ax_inT 1 185 (by decide +kernel)) (ax_inT 1 22 (by decide +kernel)) (ax_inC 1 23 rfl) ⟨by show 1 ≤ d; omega, by show 40 ≤ 40 * d; omega⟩ (Nat.le_of_ble_eq_true rfl) (dk ddX0_init 1 rfl) ?_
  refine x_aload_n C (dk ddX0_init 2 rfl) rfl ?_
  refine x_bipush C (v := nI 7) (dk ddX0_init 3 rfl) (by decide) ?_
  refine x_nai C (by decide) (by have h := hT0; show ax_top G + 1 ≤ ax_top G + 119; omega) (by have h := hU0; show ax_used G + 7 ≤ ax_used G + 683; omega) (dk ddX0_init 4 rfl) ?_
  have hN_ := hB0.new (k := 0) (n := 7) (sl := 7)
  have hB1 : ax_Bt G I L a (ax_used G + 7) tX0_1 iX0_1 (ax_new G 0 7 7) (ax_z I (ax_top G) 0) (ax_z L (ax_top G) 0) := hN_
  generalize ax_new G 0 7 7 = G1 at hB1 ⊢
  generalize ax_z I (ax_top G) 0 = I1 at hB1 ⊢
  generalize ax_z L (ax_top G) 0 = L1 at hB1 ⊢
  have hL1 : List.length tX0_1 = 2 := by decide +kernel
  have hT1 : ax_top G1 = a + 2 := by have h := hB1.1; rw [hL1] at h; exact h
  have hU1 : ax_used G1 = ax_used G + 7 := hB1.2.1
  clear hL1
  clear hN_
  refine x_putrF C flX0_11 fw0 rfl rfl rfl rfl (by have h := hT1; show a < ax_top G1; omega) (show ax_K G1 a = 8 + 0 from (hB1.2.2.1 0 (8, 0, []) (by decide +kernel)).1) (fun _ => rfl) (fun _ => rfl) (dk ddX0_init 5 rfl) ?_
  have h_ := hB1.ref (j := 0) (k := 0) (b := List.length tX0_0) (x := (8, 0, [])) (by decide +kernel) (by decide +kernel)
  rw [← hB0.1] at h_
  have hB2 : ax_Bt G I L a (ax_used G + 7) tX0_2 iX0_1 (ax_gR G1 a 0 (some (ax_top G))) I1 L1 := h_
  generalize ax_gR G1 a 0 (some (ax_top G)) = G2 at hB2 ⊢
  have hL2 : List.length tX0_2 = 2 := by decide +kernel
  have hT2 : ax_top G2 = a + 2 := by have h := hB2.1; rw [hL2] at h; exact h
  have hU2 : ax_used G2 = ax_used G + 7 := hB2.2.1
  clear hL2
  clear h_
  clear hB0 hT0 hU0 hB1 hT1 hU1
  refine x_aload_n C (dk ddX0_init 6 rfl) rfl ?_
  refine x_new C (ci := 3) (q0 := (RX3, TX3, 8)) (tyf := tyX3) rfl cw3 tyX3_ok dfX3 (ax_inT 1 186 (by decide +kernel)) (ax_inT 1 187 (by decide +kernel)) miX3 (by have h := hT2; show ax_top G2 + 1 ≤ ax_top G + 119; omega) (by have h := hU2; show ax_used G2 + 8 ≤ ax_used G + 683; omega) (dk ddX0_init 7 rfl) ?_
  refine x_dup C (dk ddX0_init 8 rfl) rfl ?_
  refine x_callI C (As := []) (k_X3_init l D T o (d - 1) (ax_new G2 11 0 8) (ax_z I1 (ax_top G2) 0) (ax_z L1 (ax_top G2) 0) (ax_top G2) rfl (ax_new_K G2 11 0 8) (ax_new_N G2 11 0 8) (ax_z_eq _ _ _) (ax_z_eq _ _ _) (by omega)) mlX0_17 ⟨by show d - 1 + 1 ≤ d; omega, by show 40 * (d - 1 + 1) ≤ 40 * d; omega⟩ ⟨by have h := hT2; show ax_top G2 + 1 + 56 ≤ ax_top G + 119; omega, by have h := hU2; show ax_used G2 + 8 + 318 ≤ ax_used G + 683; omega⟩ rfl (Nat.le_of_ble_eq_true rfl) (dk ddX0_init 9 rfl) ?_
  rintro v_ G2p I2p L2p ⟨rfl, hp⟩
  have hq := hB2.obj hp
  clear hp
  have hB3 : ax_Bt G I L a (ax_used G + 333) tX0_3 iX0_2 G2p I2p L2p := hq
  have hL3 : List.length tX0_3 = 59 := by decide +kernel
  have hT3 : ax_top G2p = a + 59 := by have h := hB3.1; rw [hL3] at h; exact h
  have hU3 : ax_used G2p = ax_used G + 333 := hB3.2.1
  clear hL3
  refine x_putrF C flX0_18 fw0 rfl rfl rfl rfl (by have h := hT3; show a < ax_top G2p; omega) (show ax_K G2p a = 8 + 0 from (hB3.2.2.1 0 (8, 0, [(0, 1)]) (by decide +kernel)).1) (fun _ => rfl) (fun _ => rfl) (dk ddX0_init 10 rfl) ?_
  have h_ := hB3.ref (j := 0) (k := 1) (b := List.length tX0_2) (x := (8, 0, [(0, 1)])) (by decide +kernel) (by decide +kernel)
  rw [← hB2.1] at h_
  have hB4 : ax_Bt G I L a (ax_used G + 333) tX0_4 iX0_2 (ax_gR G2p a 1 (some (ax_top G2))) I2p L2p := h_
  generalize ax_gR G2p a 1 (some (ax_top G2)) = G4 at hB4 ⊢
  have hL4 : List.length tX0_4 = 59 := by decide +kernel
  have hT4 : ax_top G4 = a + 59 := by have h := hB4.1; rw [hL4] at h; exact h
  have hU4 : ax_used G4 = ax_used G + 333 := hB4.2.1
  clear hL4
  clear h_ hq
  clear hB2 hT2 hU2 hB3 hT3 hU3
  refine x_aload_n C (dk ddX0_init 11 rfl) rfl ?_
  refine x_new C (ci := 3) (q0 := (RX3, TX3, 8)) (tyf := tyX3) rfl cw3 tyX3_ok dfX3 (ax_inT 1 186 (by decide +kernel)) (ax_inT 1 187 (by decide +kernel)) miX3 (by have h := hT4; show ax_top G4 + 1 ≤ ax_top G + 119; omega) (by have h := hU4; show ax_used G4 + 8 ≤ ax_used G + 683; omega) (dk ddX0_init 12 rfl) ?_
  refine x_dup C (dk ddX0_init 13 rfl) rfl ?_
  refine x_callI C (As := []) (k_X3_init l D T o (d - 1) (ax_new G4 11 0 8) (ax_z I2p (ax_top G4) 0) (ax_z L2p (ax_top G4) 0) (ax_top G4) rfl (ax_new_K G4 11 0 8) (ax_new_N G4 11 0 8) (ax_z_eq _ _ _) (ax_z_eq _ _ _) (by omega)) mlX0_17 ⟨by show d - 1 + 1 ≤ d; omega, by show 40 * (d - 1 + 1) ≤ 40 * d; omega⟩ ⟨by have h := hT4; show ax_top G4 + 1 + 56 ≤ ax_top G + 119; omega, by have h := hU4; show ax_used G4 + 8 + 318 ≤ ax_used G + 683; omega⟩ rfl (Nat.le_of_ble_eq_true rfl) (dk ddX0_init 14 rfl) ?_
  rintro v_ G4p I4p L4p ⟨rfl, hp⟩
  have hq := hB4.obj hp
  clear hp
  have hB5 : ax_Bt G I L a (ax_used G + 659) tX0_5 iX0_3 G4p I4p L4p := hq
  have hL5 : List.length tX0_5 = 116 := by decide +kernel
  have hT5 : ax_top G4p = a + 116 := by have h := hB5.1; rw [hL5] at h; exact h
  have hU5 : ax_used G4p = ax_used G + 659 := hB5.2.1
  clear hL5
  refine x_putrF C flX0_22 fw0 rfl rfl rfl rfl (by have h := hT5; show a < ax_top G4p; omega) (show ax_K G4p a = 8 + 0 from (hB5.2.2.1 0 (8, 0, [(1, 2), (0, 1)]) (by decide +kernel)).1) (fun _ => rfl) (fun _ => rfl) (dk ddX0_init 15 rfl) ?_
  have h_ := hB5.ref (j := 0) (k := 2) (b := List.length tX0_4) (x := (8, 0, [(1, 2), (0, 1)])) (by decide +kernel) (by decide +kernel)
  rw [← hB4.1] at h_
  have hB6 : ax_Bt G I L a (ax_used G + 659) tX0_6 iX0_3 (ax_gR G4p a 2 (some (ax_top G4))) I4p L4p := h_
  generalize ax_gR G4p a 2 (some (ax_top G4)) = G6 at hB6 ⊢
  have hL6 : List.length tX0_6 = 116 := by decide +kernel
  have hT6 : ax_top G6 = a + 116 := by have h := hB6.1; rw [hL6] at h; exact h
  have hU6 : ax_used G6 = ax_used G + 659 := hB6.2.1
  clear hL6
  clear h_ hq
  clear hB4 hT4 hU4 hB5 hT5 hU5
  refine x_aload_n C (dk ddX0_init 16 rfl) rfl ?_
  refine x_bipush C (v := nI 6) (dk ddX0_init 17 rfl) (by decide) ?_
  refine x_nal C (by decide) (by have h := hT6; show ax_top G6 + 1 ≤ ax_top G + 119; omega) (by have h := hU6; show ax_used G6 + 6 ≤ ax_used G + 683; omega) (dk ddX0_init 18 rfl) ?_
  have hN_ := hB6.new (k := 2) (n := 6) (sl := 6)
  have hB7 : ax_Bt G I L a (ax_used G + 665) tX0_7 iX0_4 (ax_new G6 2 6 6) (ax_z I4p (ax_top G6) 0) (ax_z L4p (ax_top G6) 0) := hN_
  generalize ax_new G6 2 6 6 = G7 at hB7 ⊢
  generalize ax_z I4p (ax_top G6) 0 = I7 at hB7 ⊢
  generalize ax_z L4p (ax_top G6) 0 = L7 at hB7 ⊢
  have hL7 : List.length tX0_7 = 117 := by decide +kernel
  have hT7 : ax_top G7 = a + 117 := by have h := hB7.1; rw [hL7] at h; exact h
  have hU7 : ax_used G7 = ax_used G + 665 := hB7.2.1
  clear hL7
  clear hN_
  refine x_putrF C flX0_25 fw0 rfl rfl rfl rfl (by have h := hT7; show a < ax_top G7; omega) (show ax_K G7 a = 8 + 0 from (hB7.2.2.1 0 (8, 0, [(2, 59), (1, 2), (0, 1)]) (by decide +kernel)).1) (fun _ => rfl) (fun _ => rfl) (dk ddX0_init 19 rfl) ?_
  have h_ := hB7.ref (j := 0) (k := 3) (b := List.length tX0_6) (x := (8, 0, [(2, 59), (1, 2), (0, 1)])) (by decide +kernel) (by decide +kernel)
  rw [← hB6.1] at h_
  have hB8 : ax_Bt G I L a (ax_used G + 665) tX0_8 iX0_4 (ax_gR G7 a 3 (some (ax_top G6))) I7 L7 := h_
  generalize ax_gR G7 a 3 (some (ax_top G6)) = G8 at hB8 ⊢
  have hL8 : List.length tX0_8 = 117 := by decide +kernel
  have hT8 : ax_top G8 = a + 117 := by have h := hB8.1; rw [hL8] at h; exact h
  have hU8 : ax_used G8 = ax_used G + 665 := hB8.2.1
  clear hL8
  clear h_
  clear hB6 hT6 hU6 hB7 hT7 hU7
  refine x_aload_n C (dk ddX0_init 20 rfl) rfl ?_
  refine x_bipush C (v := nI 6) (dk ddX0_init 21 rfl) (by decide) ?_
  refine x_nal C (by decide) (by have h := hT8; show ax_top G8 + 1 ≤ ax_top G + 119; omega) (by have h := hU8; show ax_used G8 + 6 ≤ ax_used G + 683; omega) (dk ddX0_init 22 rfl) ?_
  have hN_ := hB8.new (k := 2) (n := 6) (sl := 6)
  have hB9 : ax_Bt G I L a (ax_used G + 671) tX0_9 iX0_5 (ax_new G8 2 6 6) (ax_z I7 (ax_top G8) 0) (ax_z L7 (ax_top G8) 0) := hN_
  generalize ax_new G8 2 6 6 = G9 at hB9 ⊢
  generalize ax_z I7 (ax_top G8) 0 = I9 at hB9 ⊢
  generalize ax_z L7 (ax_top G8) 0 = L9 at hB9 ⊢
  have hL9 : List.length tX0_9 = 118 := by decide +kernel
  have hT9 : ax_top G9 = a + 118 := by have h := hB9.1; rw [hL9] at h; exact h
  have hU9 : ax_used G9 = ax_used G + 671 := hB9.2.1
  clear hL9
  clear hN_
  refine x_putrF C flX0_29 fw0 rfl rfl rfl rfl (by have h := hT9; show a < ax_top G9; omega) (show ax_K G9 a = 8 + 0 from (hB9.2.2.1 0 (8, 0, [(3, 116), (2, 59), (1, 2), (0, 1)]) (by decide +kernel)).1) (fun _ => rfl) (fun _ => rfl) (dk ddX0_init 23 rfl) ?_
  have h_ := hB9.ref (j := 0) (k := 4) (b := List.length tX0_8) (x := (8, 0, [(3, 116), (2, 59), (1, 2), (0, 1)])) (by decide +kernel) (by decide +kernel)
  rw [← hB8.1] at h_
  have hB10 : ax_Bt G I L a (ax_used G + 671) tX0_10 iX0_5 (ax_gR G9 a 4 (some (ax_top G8))) I9 L9 := h_
  generalize ax_gR G9 a 4 (some (ax_top G8)) = G10 at hB10 ⊢
  have hL10 : List.length tX0_10 = 118 := by decide +kernel
  have hT10 : ax_top G10 = a + 118 := by have h := hB10.1; rw [hL10] at h; exact h
  have hU10 : ax_used G10 = ax_used G + 671 := hB10.2.1
  clear hL10
  clear h_
  clear hB8 hT8 hU8 hB9 hT9 hU9
  refine x_aload_n C (dk ddX0_init 24 rfl) rfl ?_
  refine x_bipush C (v := nI 6) (dk ddX0_init 25 rfl) (by decide) ?_
  refine x_nal C (by decide) (by have h := hT10; show ax_top G10 + 1 ≤ ax_top G + 119; omega) (by have h := hU10; show ax_used G10 + 6 ≤ ax_used G + 683; omega) (dk ddX0_init 26 rfl) ?_
  have hN_ := hB10.new (k := 2) (n := 6) (sl := 6)
  have hB11 : ax_Bt G I L a (ax_used G + 677) tX0_11 iX0_6 (ax_new G10 2 6 6) (ax_z I9 (ax_top G10) 0) (ax_z L9 (ax_top G10) 0) := hN_
  generalize ax_new G10 2 6 6 = G11 at hB11 ⊢
  generalize ax_z I9 (ax_top G10) 0 = I11 at hB11 ⊢
  generalize ax_z L9 (ax_top G10) 0 = L11 at hB11 ⊢
  have hL11 : List.length tX0_11 = 119 := by decide +kernel
  have hT11 : ax_top G11 = a + 119 := by have h := hB11.1; rw [hL11] at h; exact h
  have hU11 : ax_used G11 = ax_used G + 677 := hB11.2.1
  clear hL11
  clear hN_
  refine x_putrF C flX0_32 fw0 rfl rfl rfl rfl (by have h := hT11; show a < ax_top G11; omega) (show ax_K G11 a = 8 + 0 from (hB11.2.2.1 0 (8, 0, [(4, 117), (3, 116), (2, 59), (1, 2), (0, 1)]) (by decide +kernel)).1) (fun _ => rfl) (fun _ => rfl) (dk ddX0_init 27 rfl) ?_
  have h_ := hB11.ref (j := 0) (k := 5) (b := List.length tX0_10) (x := (8, 0, [(4, 117), (3, 116), (2, 59), (1, 2), (0, 1)])) (by decide +kernel) (by decide +kernel)
  rw [← hB10.1] at h_
  have hB12 : ax_Bt G I L a (ax_used G + 677) tX0_12 iX0_6 (ax_gR G11 a 5 (some (ax_top G10))) I11 L11 := h_
  generalize ax_gR G11 a 5 (some (ax_top G10)) = G12 at hB12 ⊢
  have hL12 : List.length tX0_12 = 119 := by decide +kernel
  have hT12 : ax_top G12 = a + 119 := by have h := hB12.1; rw [hL12] at h; exact h
  have hU12 : ax_used G12 = ax_used G + 677 := hB12.2.1
  clear hL12
  clear h_
  clear hB10 hT10 hU10 hB11 hT11 hU11
  refine x_aload_n C (dk ddX0_init 28 rfl) rfl ?_
  refine x_bipush C (v := nI 6) (dk ddX0_init 29 rfl) (by decide) ?_
  refine x_nal C (by decide) (by have h := hT12; show ax_top G12 + 1 ≤ ax_top G + 119; omega) (by have h := hU12; show ax_used G12 + 6 ≤ ax_used G + 683; omega) (dk ddX0_init 30 rfl) ?_
  have hN_ := hB12.new (k := 2) (n := 6) (sl := 6)
  have hB13 : ax_Bt G I L a (ax_used G + 683) tX0_13 iX0_7 (ax_new G12 2 6 6) (ax_z I11 (ax_top G12) 0) (ax_z L11 (ax_top G12) 0) := hN_
  generalize ax_new G12 2 6 6 = G13 at hB13 ⊢
  generalize ax_z I11 (ax_top G12) 0 = I13 at hB13 ⊢
  generalize ax_z L11 (ax_top G12) 0 = L13 at hB13 ⊢
  have hL13 : List.length tX0_13 = 120 := by decide +kernel
  have hT13 : ax_top G13 = a + 120 := by have h := hB13.1; rw [hL13] at h; exact h
  have hU13 : ax_used G13 = ax_used G + 683 := hB13.2.1
  clear hL13
  clear hN_
  refine x_putrF C flX0_35 fw0 rfl rfl rfl rfl (by have h := hT13; show a < ax_top G13; omega) (show ax_K G13 a = 8 + 0 from (hB13.2.2.1 0 (8, 0, [(5, 118), (4, 117), (3, 116), (2, 59), (1, 2), (0, 1)]) (by decide +kernel)).1) (fun _ => rfl) (fun _ => rfl) (dk ddX0_init 31 rfl) ?_
  have h_ := hB13.ref (j := 0) (k := 6) (b := List.length tX0_12) (x := (8, 0, [(5, 118), (4, 117), (3, 116), (2, 59), (1, 2), (0, 1)])) (by decide +kernel) (by decide +kernel)
  rw [← hB12.1] at h_
  have hB14 : ax_Bt G I L a (ax_used G + 683) tX0_14 iX0_7 (ax_gR G13 a 6 (some (ax_top G12))) I13 L13 := h_
  generalize ax_gR G13 a 6 (some (ax_top G12)) = G14 at hB14 ⊢
  have hL14 : List.length tX0_14 = 120 := by decide +kernel
  have hT14 : ax_top G14 = a + 120 := by have h := hB14.1; rw [hL14] at h; exact h
  have hU14 : ax_used G14 = ax_used G + 683 := hB14.2.1
  clear hL14
  clear h_
  exact x_vret C rfl ⟨rfl, hB14⟩ (by have h := hT14; show ax_top G14 = ax_top G + 119; omega) hU14 (dk ddX0_init 32 rfl)
def tX9_0 : ax_Tb := [(17, 0, [])]
def iX9_0 : List (Nat → Int32) := [fun _ => 0]
def tX9_1 : ax_Tb := tX9_0 ++ [(0, 100, [])]
def iX9_1 : List (Nat → Int32) := iX9_0 ++ [fun _ => 0]
def tX9_2 : ax_Tb := ax_addr tX9_1 0 0 (List.length tX9_0)
def iX9_2 : List (Nat → Int32) := List.modify iX9_1 0 (fun f i => if i = 1 then nI 0 else f i)
def iX9_3 : List (Nat → Int32) := List.modify iX9_2 0 (fun f i => if i = 2 then nI 0 else f i)
def iX9_4 : List (Nat → Int32) := List.modify iX9_3 0 (fun f i => if i = 3 then nI 0 else f i)
def iX9_5 : List (Nat → Int32) := List.modify iX9_4 0 (fun f i => if i = 4 then nI 0 else f i)
def iX9_6 : List (Nat → Int32) := List.modify iX9_5 0 (fun f i => if i = 5 then nI 0 else f i)
def iX9_7 : List (Nat → Int32) := List.modify iX9_6 0 (fun f i => if i = 6 then nI 0 else f i)
def tX9_3 : ax_Tb := tX9_2 ++ [(4, 5, [])]
def iX9_8 : List (Nat → Int32) := iX9_7 ++ [fun _ => 0]
def tX9_4 : ax_Tb := ax_addr tX9_3 0 7 (List.length tX9_2)
def tX9_5 : ax_Tb := tX9_4 ++ [(4, 5, [])]
def iX9_9 : List (Nat → Int32) := iX9_8 ++ [fun _ => 0]
def tX9_6 : ax_Tb := ax_addr tX9_5 0 8 (List.length tX9_4)
def tX9_7 : ax_Tb := tX9_6 ++ [(4, 5, [])]
def iX9_10 : List (Nat → Int32) := iX9_9 ++ [fun _ => 0]
def tX9_8 : ax_Tb := ax_addr tX9_7 0 9 (List.length tX9_6)
def tX9_9 : ax_Tb := tX9_8 ++ ax_shf (List.length tX9_8) tX8
def iX9_11 : List (Nat → Int32) := iX9_10 ++ iX8
def tX9_10 : ax_Tb := ax_addr tX9_9 2 0 (List.length tX9_8)
def tX9_11 : ax_Tb := tX9_10 ++ ax_shf (List.length tX9_10) tX8
def iX9_12 : List (Nat → Int32) := iX9_11 ++ iX8
def tX9_12 : ax_Tb := ax_addr tX9_11 3 0 (List.length tX9_10)
def tX9_13 : ax_Tb := tX9_12 ++ ax_shf (List.length tX9_12) tX8
def iX9_13 : List (Nat → Int32) := iX9_12 ++ iX8
def tX9_14 : ax_Tb := ax_addr tX9_13 4 0 (List.length tX9_12)
def tX9_15 : ax_Tb := tX9_14 ++ ax_shf (List.length tX9_14) tX8
def iX9_14 : List (Nat → Int32) := iX9_13 ++ iX8
def tX9_16 : ax_Tb := ax_addr tX9_15 2 1 (List.length tX9_14)
def tX9_17 : ax_Tb := tX9_16 ++ ax_shf (List.length tX9_16) tX8
def iX9_15 : List (Nat → Int32) := iX9_14 ++ iX8
def tX9_18 : ax_Tb := ax_addr tX9_17 3 1 (List.length tX9_16)
def tX9_19 : ax_Tb := tX9_18 ++ ax_shf (List.length tX9_18) tX8
def iX9_16 : List (Nat → Int32) := iX9_15 ++ iX8
def tX9_20 : ax_Tb := ax_addr tX9_19 4 1 (List.length tX9_18)
def tX9_21 : ax_Tb := tX9_20 ++ ax_shf (List.length tX9_20) tX8
def iX9_17 : List (Nat → Int32) := iX9_16 ++ iX8
def tX9_22 : ax_Tb := ax_addr tX9_21 2 2 (List.length tX9_20)
def tX9_23 : ax_Tb := tX9_22 ++ ax_shf (List.length tX9_22) tX8
def iX9_18 : List (Nat → Int32) := iX9_17 ++ iX8
def tX9_24 : ax_Tb := ax_addr tX9_23 3 2 (List.length tX9_22)
def tX9_25 : ax_Tb := tX9_24 ++ ax_shf (List.length tX9_24) tX8
def iX9_19 : List (Nat → Int32) := iX9_18 ++ iX8
def tX9_26 : ax_Tb := ax_addr tX9_25 4 2 (List.length tX9_24)
def tX9_27 : ax_Tb := tX9_26 ++ ax_shf (List.length tX9_26) tX8
def iX9_20 : List (Nat → Int32) := iX9_19 ++ iX8
def tX9_28 : ax_Tb := ax_addr tX9_27 2 3 (List.length tX9_26)
def tX9_29 : ax_Tb := tX9_28 ++ ax_shf (List.length tX9_28) tX8
def iX9_21 : List (Nat → Int32) := iX9_20 ++ iX8
def tX9_30 : ax_Tb := ax_addr tX9_29 3 3 (List.length tX9_28)
def tX9_31 : ax_Tb := tX9_30 ++ ax_shf (List.length tX9_30) tX8
def iX9_22 : List (Nat → Int32) := iX9_21 ++ iX8
def tX9_32 : ax_Tb := ax_addr tX9_31 4 3 (List.length tX9_30)
def tX9_33 : ax_Tb := tX9_32 ++ ax_shf (List.length tX9_32) tX8
def iX9_23 : List (Nat → Int32) := iX9_22 ++ iX8
def tX9_34 : ax_Tb := ax_addr tX9_33 2 4 (List.length tX9_32)
def tX9_35 : ax_Tb := tX9_34 ++ ax_shf (List.length tX9_34) tX8
def iX9_24 : List (Nat → Int32) := iX9_23 ++ iX8
def tX9_36 : ax_Tb := ax_addr tX9_35 3 4 (List.length tX9_34)
def tX9_37 : ax_Tb := tX9_36 ++ ax_shf (List.length tX9_36) tX8
def iX9_25 : List (Nat → Int32) := iX9_24 ++ iX8
def tX9_38 : ax_Tb := ax_addr tX9_37 4 4 (List.length tX9_36)
abbrev tX9 : ax_Tb := tX9_38
abbrev iX9 : List (Nat → Int32) := iX9_25
set_option maxHeartbeats 4000000 in
set_option maxRecDepth 20000 in
/-- TextReader -/
theorem k_X9_init (l : Launch) (D : va_G) (T : Nat → ClassId) (o d : Nat) (G : ax_G) (I : ax_I) (L : ax_L) (a : Nat) (ht : ax_top G = a + 1) (hK : ax_K G a = 8 + 9) (hN : ax_N G a = 0) (hI : I a = fun _ => 0) (hL : L a = fun _ => 0) (hd : 3 ≤ d) : ax_Con l D T o yX9_init cX9_init 2 none d 49 355 [.ref a] G I L (fun v G' I' L' => v = none ∧ ax_Bt G I L a (ax_used G + 355) tX9 iX9 G' I' L') := by
  refine ax_enter (by decide +kernel) (Nat.le_of_ble_eq_true rfl) ?_
  intro p_ e_ s_ m_ args_ below_ meth_ c_ C _
  refine x_lvs (lv' := [(0, .ref a)]) rfl ?_
  have hB0 : ax_Bt G I L a (ax_used G + 0) tX9_0 iX9_0 G I L := ax_Bt.start ht hK hN hI hL
  have hL0 : List.length tX9_0 = 1 := by decide +kernel
  have hT0 : ax_top G = a + 1 := by have h := hB0.1; rw [hL0] at h; exact h
  have hU0 : ax_used G = ax_used G + 0 := hB0.2.1
  clear hL0
  refine x_aload_n C (dk ddX9_init 0 rfl) rfl ?_
  refine x_obj C (ax_inT 1 119 (by decide +kernel)) (ax_inT 1 22 (by decide +kernel)) (ax_inC 1 23 rfl) ⟨by show 1 ≤ d; omega, by show 40 ≤ 40 * d; omega⟩ (Nat.le_of_ble_eq_true rfl) (dk ddX9_init 1 rfl) ?_
  refine x_aload_n C (dk ddX9_init 2 rfl) rfl ?_
  refine x_bipush C (v := nI 100) (dk ddX9_init 3 rfl) (by decide) ?_
  refine x_nai C (by decide) (by have h := hT0; show ax_top G + 1 ≤ ax_top G + 49; omega) (by have h := hU0; show ax_used G + 100 ≤ ax_used G + 355; omega) (dk ddX9_init 4 rfl) ?_
  have hN_ := hB0.new (k := 0) (n := 100) (sl := 100)
  have hB1 : ax_Bt G I L a (ax_used G + 100) tX9_1 iX9_1 (ax_new G 0 100 100) (ax_z I (ax_top G) 0) (ax_z L (ax_top G) 0) := hN_
  generalize ax_new G 0 100 100 = G1 at hB1 ⊢
  generalize ax_z I (ax_top G) 0 = I1 at hB1 ⊢
  generalize ax_z L (ax_top G) 0 = L1 at hB1 ⊢
  have hL1 : List.length tX9_1 = 2 := by decide +kernel
  have hT1 : ax_top G1 = a + 2 := by have h := hB1.1; rw [hL1] at h; exact h
  have hU1 : ax_used G1 = ax_used G + 100 := hB1.2.1
  clear hL1
  clear hN_
  refine x_putrF C flX9_9 fw9 rfl rfl rfl rfl (by have h := hT1; show a < ax_top G1; omega) (show ax_K G1 a = 8 + 9 from (hB1.2.2.1 0 (17, 0, []) (by decide +kernel)).1) (fun _ => rfl) (fun _ => rfl) (dk ddX9_init 5 rfl) ?_
  have h_ := hB1.ref (j := 0) (k := 0) (b := List.length tX9_0) (x := (17, 0, [])) (by decide +kernel) (by decide +kernel)
  rw [← hB0.1] at h_
  have hB2 : ax_Bt G I L a (ax_used G + 100) tX9_2 iX9_1 (ax_gR G1 a 0 (some (ax_top G))) I1 L1 := h_
  generalize ax_gR G1 a 0 (some (ax_top G)) = G2 at hB2 ⊢
  have hL2 : List.length tX9_2 = 2 := by decide +kernel
  have hT2 : ax_top G2 = a + 2 := by have h := hB2.1; rw [hL2] at h; exact h
  have hU2 : ax_used G2 = ax_used G + 100 := hB2.2.1
  clear hL2
  clear h_
  clear hB0 hT0 hU0 hB1 hT1 hU1
  refine x_aload_n C (dk ddX9_init 6 rfl) rfl ?_
  refine x_iconst C (v := nI 0) (dk ddX9_init 7 rfl) (by decide) ?_
  refine x_puti C flX9_15 fw9 rfl rfl (by have h := hT2; show a < ax_top G2; omega) (show ax_K G2 a = 8 + 9 from (hB2.2.2.1 0 (17, 0, [(0, 1)]) (by decide +kernel)).1) rfl rfl (dk ddX9_init 8 rfl) ?_
  have hB3 : ax_Bt G I L a (ax_used G + 100) tX9_2 iX9_2 G2 (ax_u I1 a 1 (nI 0)) L1 := hB2.int (j := 0) (k := 1) (v := (nI 0)) (by decide +kernel)
  generalize ax_u I1 a 1 (nI 0) = I3 at hB3 ⊢
  have hL3 : List.length tX9_2 = 2 := by decide +kernel
  have hT3 : ax_top G2 = a + 2 := by have h := hB3.1; rw [hL3] at h; exact h
  have hU3 : ax_used G2 = ax_used G + 100 := hB3.2.1
  clear hL3
  clear hB2 hT2 hU2
  refine x_aload_n C (dk ddX9_init 9 rfl) rfl ?_
  refine x_iconst C (v := nI 0) (dk ddX9_init 10 rfl) (by decide) ?_
  refine x_puti C flX9_19 fw9 rfl rfl (by have h := hT3; show a < ax_top G2; omega) (show ax_K G2 a = 8 + 9 from (hB3.2.2.1 0 (17, 0, [(0, 1)]) (by decide +kernel)).1) rfl rfl (dk ddX9_init 11 rfl) ?_
  have hB4 : ax_Bt G I L a (ax_used G + 100) tX9_2 iX9_3 G2 (ax_u I3 a 2 (nI 0)) L1 := hB3.int (j := 0) (k := 2) (v := (nI 0)) (by decide +kernel)
  generalize ax_u I3 a 2 (nI 0) = I4 at hB4 ⊢
  have hL4 : List.length tX9_2 = 2 := by decide +kernel
  have hT4 : ax_top G2 = a + 2 := by have h := hB4.1; rw [hL4] at h; exact h
  have hU4 : ax_used G2 = ax_used G + 100 := hB4.2.1
  clear hL4
  clear hB3 hT3 hU3
  refine x_aload_n C (dk ddX9_init 12 rfl) rfl ?_
  refine x_iconst C (v := nI 0) (dk ddX9_init 13 rfl) (by decide) ?_
  refine x_puti C flX9_22 fw9 rfl rfl (by have h := hT4; show a < ax_top G2; omega) (show ax_K G2 a = 8 + 9 from (hB4.2.2.1 0 (17, 0, [(0, 1)]) (by decide +kernel)).1) rfl rfl (dk ddX9_init 14 rfl) ?_
  have hB5 : ax_Bt G I L a (ax_used G + 100) tX9_2 iX9_4 G2 (ax_u I4 a 3 (nI 0)) L1 := hB4.int (j := 0) (k := 3) (v := (nI 0)) (by decide +kernel)
  generalize ax_u I4 a 3 (nI 0) = I5 at hB5 ⊢
  have hL5 : List.length tX9_2 = 2 := by decide +kernel
  have hT5 : ax_top G2 = a + 2 := by have h := hB5.1; rw [hL5] at h; exact h
  have hU5 : ax_used G2 = ax_used G + 100 := hB5.2.1
  clear hL5
  clear hB4 hT4 hU4
  refine x_aload_n C (dk ddX9_init 15 rfl) rfl ?_
  refine x_iconst C (v := nI 0) (dk ddX9_init 16 rfl) (by decide) ?_
  refine x_puti C flX9_26 fw9 rfl rfl (by have h := hT5; show a < ax_top G2; omega) (show ax_K G2 a = 8 + 9 from (hB5.2.2.1 0 (17, 0, [(0, 1)]) (by decide +kernel)).1) rfl rfl (dk ddX9_init 17 rfl) ?_
  have hB6 : ax_Bt G I L a (ax_used G + 100) tX9_2 iX9_5 G2 (ax_u I5 a 4 (nI 0)) L1 := hB5.int (j := 0) (k := 4) (v := (nI 0)) (by decide +kernel)
  generalize ax_u I5 a 4 (nI 0) = I6 at hB6 ⊢
  have hL6 : List.length tX9_2 = 2 := by decide +kernel
  have hT6 : ax_top G2 = a + 2 := by have h := hB6.1; rw [hL6] at h; exact h
  have hU6 : ax_used G2 = ax_used G + 100 := hB6.2.1
  clear hL6
  clear hB5 hT5 hU5
  refine x_aload_n C (dk ddX9_init 18 rfl) rfl ?_
  refine x_iconst C (v := nI 0) (dk ddX9_init 19 rfl) (by decide) ?_
  refine x_puti C flX9_29 fw9 rfl rfl (by have h := hT6; show a < ax_top G2; omega) (show ax_K G2 a = 8 + 9 from (hB6.2.2.1 0 (17, 0, [(0, 1)]) (by decide +kernel)).1) rfl rfl (dk ddX9_init 20 rfl) ?_
  have hB7 : ax_Bt G I L a (ax_used G + 100) tX9_2 iX9_6 G2 (ax_u I6 a 5 (nI 0)) L1 := hB6.int (j := 0) (k := 5) (v := (nI 0)) (by decide +kernel)
  generalize ax_u I6 a 5 (nI 0) = I7 at hB7 ⊢
  have hL7 : List.length tX9_2 = 2 := by decide +kernel
  have hT7 : ax_top G2 = a + 2 := by have h := hB7.1; rw [hL7] at h; exact h
  have hU7 : ax_used G2 = ax_used G + 100 := hB7.2.1
  clear hL7
  clear hB6 hT6 hU6
  refine x_aload_n C (dk ddX9_init 21 rfl) rfl ?_
  refine x_iconst C (v := nI 0) (dk ddX9_init 22 rfl) (by decide) ?_
  refine x_puti C flX9_32 fw9 rfl rfl (by have h := hT7; show a < ax_top G2; omega) (show ax_K G2 a = 8 + 9 from (hB7.2.2.1 0 (17, 0, [(0, 1)]) (by decide +kernel)).1) rfl rfl (dk ddX9_init 23 rfl) ?_
  have hB8 : ax_Bt G I L a (ax_used G + 100) tX9_2 iX9_7 G2 (ax_u I7 a 6 (nI 0)) L1 := hB7.int (j := 0) (k := 6) (v := (nI 0)) (by decide +kernel)
  generalize ax_u I7 a 6 (nI 0) = I8 at hB8 ⊢
  have hL8 : List.length tX9_2 = 2 := by decide +kernel
  have hT8 : ax_top G2 = a + 2 := by have h := hB8.1; rw [hL8] at h; exact h
  have hU8 : ax_used G2 = ax_used G + 100 := hB8.2.1
  clear hL8
  clear hB7 hT7 hU7
  refine x_aload_n C (dk ddX9_init 24 rfl) rfl ?_
  refine x_iconst C (v := nI 5) (dk ddX9_init 25 rfl) (by decide) ?_
  refine x_newq C (t := 4) (n := 5) (cn := RX8) rfl (by decide) (by decide) (ax_inT 1 120 (by decide +kernel)) (ax_inT 1 121 (by decide +kernel)) (by decide) (by have h := hT8; show ax_top G2 + 1 ≤ ax_top G + 49; omega) (by have h := hU8; show ax_used G2 + 5 ≤ ax_used G + 355; omega) (dk ddX9_init 26 rfl) ?_
  have hN_ := hB8.new (k := 4) (n := 5) (sl := 5)
  have hB9 : ax_Bt G I L a (ax_used G + 105) tX9_3 iX9_8 (ax_new G2 4 5 5) (ax_z I8 (ax_top G2) 0) (ax_z L1 (ax_top G2) 0) := hN_
  generalize ax_new G2 4 5 5 = G9 at hB9 ⊢
  generalize ax_z I8 (ax_top G2) 0 = I9 at hB9 ⊢
  generalize ax_z L1 (ax_top G2) 0 = L9 at hB9 ⊢
  have hL9 : List.length tX9_3 = 3 := by decide +kernel
  have hT9 : ax_top G9 = a + 3 := by have h := hB9.1; rw [hL9] at h; exact h
  have hU9 : ax_used G9 = ax_used G + 105 := hB9.2.1
  clear hL9
  clear hN_
  refine x_putrF C flX9_37 fw9 rfl rfl rfl rfl (by have h := hT9; show a < ax_top G9; omega) (show ax_K G9 a = 8 + 9 from (hB9.2.2.1 0 (17, 0, [(0, 1)]) (by decide +kernel)).1) (fun _ => rfl) (fun _ => rfl) (dk ddX9_init 27 rfl) ?_
  have h_ := hB9.ref (j := 0) (k := 7) (b := List.length tX9_2) (x := (17, 0, [(0, 1)])) (by decide +kernel) (by decide +kernel)
  rw [← hB8.1] at h_
  have hB10 : ax_Bt G I L a (ax_used G + 105) tX9_4 iX9_8 (ax_gR G9 a 7 (some (ax_top G2))) I9 L9 := h_
  generalize ax_gR G9 a 7 (some (ax_top G2)) = G10 at hB10 ⊢
  have hL10 : List.length tX9_4 = 3 := by decide +kernel
  have hT10 : ax_top G10 = a + 3 := by have h := hB10.1; rw [hL10] at h; exact h
  have hU10 : ax_used G10 = ax_used G + 105 := hB10.2.1
  clear hL10
  clear h_
  clear hB8 hT8 hU8 hB9 hT9 hU9
  refine x_aload_n C (dk ddX9_init 28 rfl) rfl ?_
  refine x_iconst C (v := nI 5) (dk ddX9_init 29 rfl) (by decide) ?_
  refine x_newq C (t := 4) (n := 5) (cn := RX8) rfl (by decide) (by decide) (ax_inT 1 120 (by decide +kernel)) (ax_inT 1 121 (by decide +kernel)) (by decide) (by have h := hT10; show ax_top G10 + 1 ≤ ax_top G + 49; omega) (by have h := hU10; show ax_used G10 + 5 ≤ ax_used G + 355; omega) (dk ddX9_init 30 rfl) ?_
  have hN_ := hB10.new (k := 4) (n := 5) (sl := 5)
  have hB11 : ax_Bt G I L a (ax_used G + 110) tX9_5 iX9_9 (ax_new G10 4 5 5) (ax_z I9 (ax_top G10) 0) (ax_z L9 (ax_top G10) 0) := hN_
  generalize ax_new G10 4 5 5 = G11 at hB11 ⊢
  generalize ax_z I9 (ax_top G10) 0 = I11 at hB11 ⊢
  generalize ax_z L9 (ax_top G10) 0 = L11 at hB11 ⊢
  have hL11 : List.length tX9_5 = 4 := by decide +kernel
  have hT11 : ax_top G11 = a + 4 := by have h := hB11.1; rw [hL11] at h; exact h
  have hU11 : ax_used G11 = ax_used G + 110 := hB11.2.1
  clear hL11
  clear hN_
  refine x_putrF C flX9_41 fw9 rfl rfl rfl rfl (by have h := hT11; show a < ax_top G11; omega) (show ax_K G11 a = 8 + 9 from (hB11.2.2.1 0 (17, 0, [(7, 2), (0, 1)]) (by decide +kernel)).1) (fun _ => rfl) (fun _ => rfl) (dk ddX9_init 31 rfl) ?_
  have h_ := hB11.ref (j := 0) (k := 8) (b := List.length tX9_4) (x := (17, 0, [(7, 2), (0, 1)])) (by decide +kernel) (by decide +kernel)
  rw [← hB10.1] at h_
  have hB12 : ax_Bt G I L a (ax_used G + 110) tX9_6 iX9_9 (ax_gR G11 a 8 (some (ax_top G10))) I11 L11 := h_
  generalize ax_gR G11 a 8 (some (ax_top G10)) = G12 at hB12 ⊢
  have hL12 : List.length tX9_6 = 4 := by decide +kernel
  have hT12 : ax_top G12 = a + 4 := by have h := hB12.1; rw [hL12] at h; exact h
  have hU12 : ax_used G12 = ax_used G + 110 := hB12.2.1
  clear hL12
  clear h_
  clear hB10 hT10 hU10 hB11 hT11 hU11
  refine x_aload_n C (dk ddX9_init 32 rfl) rfl ?_
  refine x_iconst C (v := nI 5) (dk ddX9_init 33 rfl) (by decide) ?_
  refine x_newq C (t := 4) (n := 5) (cn := RX8) rfl (by decide) (by decide) (ax_inT 1 120 (by decide +kernel)) (ax_inT 1 121 (by decide +kernel)) (by decide) (by have h := hT12; show ax_top G12 + 1 ≤ ax_top G + 49; omega) (by have h := hU12; show ax_used G12 + 5 ≤ ax_used G + 355; omega) (dk ddX9_init 34 rfl) ?_
  have hN_ := hB12.new (k := 4) (n := 5) (sl := 5)
  have hB13 : ax_Bt G I L a (ax_used G + 115) tX9_7 iX9_10 (ax_new G12 4 5 5) (ax_z I11 (ax_top G12) 0) (ax_z L11 (ax_top G12) 0) := hN_
  generalize ax_new G12 4 5 5 = G13 at hB13 ⊢
  generalize ax_z I11 (ax_top G12) 0 = I13 at hB13 ⊢
  generalize ax_z L11 (ax_top G12) 0 = L13 at hB13 ⊢
  have hL13 : List.length tX9_7 = 5 := by decide +kernel
  have hT13 : ax_top G13 = a + 5 := by have h := hB13.1; rw [hL13] at h; exact h
  have hU13 : ax_used G13 = ax_used G + 115 := hB13.2.1
  clear hL13
  clear hN_
  refine x_putrF C flX9_44 fw9 rfl rfl rfl rfl (by have h := hT13; show a < ax_top G13; omega) (show ax_K G13 a = 8 + 9 from (hB13.2.2.1 0 (17, 0, [(8, 3), (7, 2), (0, 1)]) (by decide +kernel)).1) (fun _ => rfl) (fun _ => rfl) (dk ddX9_init 35 rfl) ?_
  have h_ := hB13.ref (j := 0) (k := 9) (b := List.length tX9_6) (x := (17, 0, [(8, 3), (7, 2), (0, 1)])) (by decide +kernel) (by decide +kernel)
  rw [← hB12.1] at h_
  have hB14 : ax_Bt G I L a (ax_used G + 115) tX9_8 iX9_10 (ax_gR G13 a 9 (some (ax_top G12))) I13 L13 := h_
  generalize ax_gR G13 a 9 (some (ax_top G12)) = G14 at hB14 ⊢
  have hL14 : List.length tX9_8 = 5 := by decide +kernel
  have hT14 : ax_top G14 = a + 5 := by have h := hB14.1; rw [hL14] at h; exact h
  have hU14 : ax_used G14 = ax_used G + 115 := hB14.2.1
  clear hL14
  clear h_
  clear hB12 hT12 hU12 hB13 hT13 hU13
  refine x_iconst C (v := nI 0) (dk ddX9_init 36 rfl) (by decide) ?_
  refine x_istore_n C (lv' := [(1, .int (nI 0)), (0, .ref a)]) (dk ddX9_init 37 rfl) (by decide) rfl ?_
  refine x_iload_n C (dk ddX9_init 38 rfl) rfl ?_
  refine x_iconst C (v := nI 4) (dk ddX9_init 39 rfl) (by decide) ?_
  refine x_icmp_gt C (tgt := 118) (dk ddX9_init 40 rfl) (by decide) (fun h_ => absurd h_ (by decide)) (fun h_ => ?_)
  clear h_
  refine x_aload_n C (dk ddX9_init 41 rfl) rfl ?_
  refine x_getr C flX9_37 rfl (by have h := hT14; show a < ax_top G14; omega) (show ax_K G14 a = 8 + 9 from (hB14.2.2.1 0 (17, 0, [(9, 4), (8, 3), (7, 2), (0, 1)]) (by decide +kernel)).1) (show ax_R G14 a 7 = some (a + 2) from (hB14.2.2.1 0 (17, 0, [(9, 4), (8, 3), (7, 2), (0, 1)]) (by decide +kernel)).2.2 (7, 2) (by decide)) (dk ddX9_init 42 rfl) ?_
  refine x_iload_n C (dk ddX9_init 43 rfl) rfl ?_
  refine x_new C (ci := 8) (q0 := (RX8, TX8, 4)) (tyf := tyX8) rfl cw8 tyX8_ok dfX8 (ax_inT 1 120 (by decide +kernel)) (ax_inT 1 122 (by decide +kernel)) miX8 (by have h := hT14; show ax_top G14 + 1 ≤ ax_top G + 49; omega) (by have h := hU14; show ax_used G14 + 4 ≤ ax_used G + 355; omega) (dk ddX9_init 44 rfl) ?_
  refine x_dup C (dk ddX9_init 45 rfl) rfl ?_
  refine x_callI C (As := []) (k_X8_init l D T o (d - 1) (ax_new G14 16 0 4) (ax_z I13 (ax_top G14) 0) (ax_z L13 (ax_top G14) 0) (ax_top G14) rfl (ax_new_K G14 16 0 4) (ax_new_N G14 16 0 4) (ax_z_eq _ _ _) (ax_z_eq _ _ _) (by omega)) mlX9_47 ⟨by show d - 1 + 1 ≤ d; omega, by show 40 * (d - 1 + 1) ≤ 40 * d; omega⟩ ⟨by have h := hT14; show ax_top G14 + 1 + 2 ≤ ax_top G + 49; omega, by have h := hU14; show ax_used G14 + 4 + 12 ≤ ax_used G + 355; omega⟩ rfl (Nat.le_of_ble_eq_true rfl) (dk ddX9_init 46 rfl) ?_
  rintro v_ G14p I14p L14p ⟨rfl, hp⟩
  have hq := hB14.obj hp
  clear hp
  have hB15 : ax_Bt G I L a (ax_used G + 131) tX9_9 iX9_11 G14p I14p L14p := hq
  have hL15 : List.length tX9_9 = 8 := by decide +kernel
  have hT15 : ax_top G14p = a + 8 := by have h := hB15.1; rw [hL15] at h; exact h
  have hU15 : ax_used G14p = ax_used G + 131 := hB15.2.1
  clear hL15
  refine x_aast C (t := 4) (ci := 8) (n := 5) (i := 0) (r := (RX8, TX8, 4)) (by have h := hT15; show a + 2 < ax_top G14p; omega) (show ax_K G14p (a + 2) = 4 from (hB15.2.2.1 2 (4, 5, []) (by decide +kernel)).1) (hB15.2.2.1 2 (4, 5, []) (by decide +kernel)).2.1 (by decide) (by decide) rfl rfl (by have h := hT15; have h2 := hT14; omega) (by rw [hT14]; exact (hB15.2.2.1 5 (16, 0, [(3, 7), (2, 6)]) (by decide +kernel)).1) (by decide) (by decide) (dk ddX9_init 47 rfl) ?_
  have h_ := hB15.ref (j := 2) (k := 0) (b := List.length tX9_8) (x := (4, 5, [])) (by decide +kernel) (by decide +kernel)
  rw [← hB14.1] at h_
  have hB16 : ax_Bt G I L a (ax_used G + 131) tX9_10 iX9_11 (ax_gR G14p (a + 2) 0 (some (ax_top G14))) I14p L14p := h_
  generalize ax_gR G14p (a + 2) 0 (some (ax_top G14)) = G16 at hB16 ⊢
  have hL16 : List.length tX9_10 = 8 := by decide +kernel
  have hT16 : ax_top G16 = a + 8 := by have h := hB16.1; rw [hL16] at h; exact h
  have hU16 : ax_used G16 = ax_used G + 131 := hB16.2.1
  clear hL16
  clear h_ hq
  clear hB14 hT14 hU14 hB15 hT15 hU15
  refine x_aload_n C (dk ddX9_init 48 rfl) rfl ?_
  refine x_getr C flX9_41 rfl (by have h := hT16; show a < ax_top G16; omega) (show ax_K G16 a = 8 + 9 from (hB16.2.2.1 0 (17, 0, [(9, 4), (8, 3), (7, 2), (0, 1)]) (by decide +kernel)).1) (show ax_R G16 a 8 = some (a + 3) from (hB16.2.2.1 0 (17, 0, [(9, 4), (8, 3), (7, 2), (0, 1)]) (by decide +kernel)).2.2 (8, 3) (by decide)) (dk ddX9_init 49 rfl) ?_
  refine x_iload_n C (dk ddX9_init 50 rfl) rfl ?_
  refine x_new C (ci := 8) (q0 := (RX8, TX8, 4)) (tyf := tyX8) rfl cw8 tyX8_ok dfX8 (ax_inT 1 120 (by decide +kernel)) (ax_inT 1 122 (by decide +kernel)) miX8 (by have h := hT16; show ax_top G16 + 1 ≤ ax_top G + 49; omega) (by have h := hU16; show ax_used G16 + 4 ≤ ax_used G + 355; omega) (dk ddX9_init 51 rfl) ?_
  refine x_dup C (dk ddX9_init 52 rfl) rfl ?_
  refine x_callI C (As := []) (k_X8_init l D T o (d - 1) (ax_new G16 16 0 4) (ax_z I14p (ax_top G16) 0) (ax_z L14p (ax_top G16) 0) (ax_top G16) rfl (ax_new_K G16 16 0 4) (ax_new_N G16 16 0 4) (ax_z_eq _ _ _) (ax_z_eq _ _ _) (by omega)) mlX9_47 ⟨by show d - 1 + 1 ≤ d; omega, by show 40 * (d - 1 + 1) ≤ 40 * d; omega⟩ ⟨by have h := hT16; show ax_top G16 + 1 + 2 ≤ ax_top G + 49; omega, by have h := hU16; show ax_used G16 + 4 + 12 ≤ ax_used G + 355; omega⟩ rfl (Nat.le_of_ble_eq_true rfl) (dk ddX9_init 53 rfl) ?_
  rintro v_ G16p I16p L16p ⟨rfl, hp⟩
  have hq := hB16.obj hp
  clear hp
  have hB17 : ax_Bt G I L a (ax_used G + 147) tX9_11 iX9_12 G16p I16p L16p := hq
  have hL17 : List.length tX9_11 = 11 := by decide +kernel
  have hT17 : ax_top G16p = a + 11 := by have h := hB17.1; rw [hL17] at h; exact h
  have hU17 : ax_used G16p = ax_used G + 147 := hB17.2.1
  clear hL17
  refine x_aast C (t := 4) (ci := 8) (n := 5) (i := 0) (r := (RX8, TX8, 4)) (by have h := hT17; show a + 3 < ax_top G16p; omega) (show ax_K G16p (a + 3) = 4 from (hB17.2.2.1 3 (4, 5, []) (by decide +kernel)).1) (hB17.2.2.1 3 (4, 5, []) (by decide +kernel)).2.1 (by decide) (by decide) rfl rfl (by have h := hT17; have h2 := hT16; omega) (by rw [hT16]; exact (hB17.2.2.1 8 (16, 0, [(3, 10), (2, 9)]) (by decide +kernel)).1) (by decide) (by decide) (dk ddX9_init 54 rfl) ?_
  have h_ := hB17.ref (j := 3) (k := 0) (b := List.length tX9_10) (x := (4, 5, [])) (by decide +kernel) (by decide +kernel)
  rw [← hB16.1] at h_
  have hB18 : ax_Bt G I L a (ax_used G + 147) tX9_12 iX9_12 (ax_gR G16p (a + 3) 0 (some (ax_top G16))) I16p L16p := h_
  generalize ax_gR G16p (a + 3) 0 (some (ax_top G16)) = G18 at hB18 ⊢
  have hL18 : List.length tX9_12 = 11 := by decide +kernel
  have hT18 : ax_top G18 = a + 11 := by have h := hB18.1; rw [hL18] at h; exact h
  have hU18 : ax_used G18 = ax_used G + 147 := hB18.2.1
  clear hL18
  clear h_ hq
  clear hB16 hT16 hU16 hB17 hT17 hU17
  refine x_aload_n C (dk ddX9_init 55 rfl) rfl ?_
  refine x_getr C flX9_44 rfl (by have h := hT18; show a < ax_top G18; omega) (show ax_K G18 a = 8 + 9 from (hB18.2.2.1 0 (17, 0, [(9, 4), (8, 3), (7, 2), (0, 1)]) (by decide +kernel)).1) (show ax_R G18 a 9 = some (a + 4) from (hB18.2.2.1 0 (17, 0, [(9, 4), (8, 3), (7, 2), (0, 1)]) (by decide +kernel)).2.2 (9, 4) (by decide)) (dk ddX9_init 56 rfl) ?_
  refine x_iload_n C (dk ddX9_init 57 rfl) rfl ?_
  refine x_new C (ci := 8) (q0 := (RX8, TX8, 4)) (tyf := tyX8) rfl cw8 tyX8_ok dfX8 (ax_inT 1 120 (by decide +kernel)) (ax_inT 1 122 (by decide +kernel)) miX8 (by have h := hT18; show ax_top G18 + 1 ≤ ax_top G + 49; omega) (by have h := hU18; show ax_used G18 + 4 ≤ ax_used G + 355; omega) (dk ddX9_init 58 rfl) ?_
  refine x_dup C (dk ddX9_init 59 rfl) rfl ?_
  refine x_callI C (As := []) (k_X8_init l D T o (d - 1) (ax_new G18 16 0 4) (ax_z I16p (ax_top G18) 0) (ax_z L16p (ax_top G18) 0) (ax_top G18) rfl (ax_new_K G18 16 0 4) (ax_new_N G18 16 0 4) (ax_z_eq _ _ _) (ax_z_eq _ _ _) (by omega)) mlX9_47 ⟨by show d - 1 + 1 ≤ d; omega, by show 40 * (d - 1 + 1) ≤ 40 * d; omega⟩ ⟨by have h := hT18; show ax_top G18 + 1 + 2 ≤ ax_top G + 49; omega, by have h := hU18; show ax_used G18 + 4 + 12 ≤ ax_used G + 355; omega⟩ rfl (Nat.le_of_ble_eq_true rfl) (dk ddX9_init 60 rfl) ?_
  rintro v_ G18p I18p L18p ⟨rfl, hp⟩
  have hq := hB18.obj hp
  clear hp
  have hB19 : ax_Bt G I L a (ax_used G + 163) tX9_13 iX9_13 G18p I18p L18p := hq
  have hL19 : List.length tX9_13 = 14 := by decide +kernel
  have hT19 : ax_top G18p = a + 14 := by have h := hB19.1; rw [hL19] at h; exact h
  have hU19 : ax_used G18p = ax_used G + 163 := hB19.2.1
  clear hL19
  refine x_aast C (t := 4) (ci := 8) (n := 5) (i := 0) (r := (RX8, TX8, 4)) (by have h := hT19; show a + 4 < ax_top G18p; omega) (show ax_K G18p (a + 4) = 4 from (hB19.2.2.1 4 (4, 5, []) (by decide +kernel)).1) (hB19.2.2.1 4 (4, 5, []) (by decide +kernel)).2.1 (by decide) (by decide) rfl rfl (by have h := hT19; have h2 := hT18; omega) (by rw [hT18]; exact (hB19.2.2.1 11 (16, 0, [(3, 13), (2, 12)]) (by decide +kernel)).1) (by decide) (by decide) (dk ddX9_init 61 rfl) ?_
  have h_ := hB19.ref (j := 4) (k := 0) (b := List.length tX9_12) (x := (4, 5, [])) (by decide +kernel) (by decide +kernel)
  rw [← hB18.1] at h_
  have hB20 : ax_Bt G I L a (ax_used G + 163) tX9_14 iX9_13 (ax_gR G18p (a + 4) 0 (some (ax_top G18))) I18p L18p := h_
  generalize ax_gR G18p (a + 4) 0 (some (ax_top G18)) = G20 at hB20 ⊢
  have hL20 : List.length tX9_14 = 14 := by decide +kernel
  have hT20 : ax_top G20 = a + 14 := by have h := hB20.1; rw [hL20] at h; exact h
  have hU20 : ax_used G20 = ax_used G + 163 := hB20.2.1
  clear hL20
  clear h_ hq
  clear hB18 hT18 hU18 hB19 hT19 hU19
  refine x_iinc C (v := nI 1) (lv' := [(1, .int (nI 1)), (0, .ref a)]) (dk ddX9_init 62 rfl) rfl (by decide) (by decide) rfl ?_
  refine x_goto C (tgt := 68) (dk ddX9_init 63 rfl) (by decide) ?_
  refine x_iload_n C (dk ddX9_init 38 rfl) rfl ?_
  refine x_iconst C (v := nI 4) (dk ddX9_init 39 rfl) (by decide) ?_
  refine x_icmp_gt C (tgt := 118) (dk ddX9_init 40 rfl) (by decide) (fun h_ => absurd h_ (by decide)) (fun h_ => ?_)
  clear h_
  refine x_aload_n C (dk ddX9_init 41 rfl) rfl ?_
  refine x_getr C flX9_37 rfl (by have h := hT20; show a < ax_top G20; omega) (show ax_K G20 a = 8 + 9 from (hB20.2.2.1 0 (17, 0, [(9, 4), (8, 3), (7, 2), (0, 1)]) (by decide +kernel)).1) (show ax_R G20 a 7 = some (a + 2) from (hB20.2.2.1 0 (17, 0, [(9, 4), (8, 3), (7, 2), (0, 1)]) (by decide +kernel)).2.2 (7, 2) (by decide)) (dk ddX9_init 42 rfl) ?_
  refine x_iload_n C (dk ddX9_init 43 rfl) rfl ?_
  refine x_new C (ci := 8) (q0 := (RX8, TX8, 4)) (tyf := tyX8) rfl cw8 tyX8_ok dfX8 (ax_inT 1 120 (by decide +kernel)) (ax_inT 1 122 (by decide +kernel)) miX8 (by have h := hT20; show ax_top G20 + 1 ≤ ax_top G + 49; omega) (by have h := hU20; show ax_used G20 + 4 ≤ ax_used G + 355; omega) (dk ddX9_init 44 rfl) ?_
  refine x_dup C (dk ddX9_init 45 rfl) rfl ?_
  refine x_callI C (As := []) (k_X8_init l D T o (d - 1) (ax_new G20 16 0 4) (ax_z I18p (ax_top G20) 0) (ax_z L18p (ax_top G20) 0) (ax_top G20) rfl (ax_new_K G20 16 0 4) (ax_new_N G20 16 0 4) (ax_z_eq _ _ _) (ax_z_eq _ _ _) (by omega)) mlX9_47 ⟨by show d - 1 + 1 ≤ d; omega, by show 40 * (d - 1 + 1) ≤ 40 * d; omega⟩ ⟨by have h := hT20; show ax_top G20 + 1 + 2 ≤ ax_top G + 49; omega, by have h := hU20; show ax_used G20 + 4 + 12 ≤ ax_used G + 355; omega⟩ rfl (Nat.le_of_ble_eq_true rfl) (dk ddX9_init 46 rfl) ?_
  rintro v_ G20p I20p L20p ⟨rfl, hp⟩
  have hq := hB20.obj hp
  clear hp
  have hB21 : ax_Bt G I L a (ax_used G + 179) tX9_15 iX9_14 G20p I20p L20p := hq
  have hL21 : List.length tX9_15 = 17 := by decide +kernel
  have hT21 : ax_top G20p = a + 17 := by have h := hB21.1; rw [hL21] at h; exact h
  have hU21 : ax_used G20p = ax_used G + 179 := hB21.2.1
  clear hL21
  refine x_aast C (t := 4) (ci := 8) (n := 5) (i := 1) (r := (RX8, TX8, 4)) (by have h := hT21; show a + 2 < ax_top G20p; omega) (show ax_K G20p (a + 2) = 4 from (hB21.2.2.1 2 (4, 5, [(0, 5)]) (by decide +kernel)).1) (hB21.2.2.1 2 (4, 5, [(0, 5)]) (by decide +kernel)).2.1 (by decide) (by decide) rfl rfl (by have h := hT21; have h2 := hT20; omega) (by rw [hT20]; exact (hB21.2.2.1 14 (16, 0, [(3, 16), (2, 15)]) (by decide +kernel)).1) (by decide) (by decide) (dk ddX9_init 47 rfl) ?_
  have h_ := hB21.ref (j := 2) (k := 1) (b := List.length tX9_14) (x := (4, 5, [(0, 5)])) (by decide +kernel) (by decide +kernel)
  rw [← hB20.1] at h_
  have hB22 : ax_Bt G I L a (ax_used G + 179) tX9_16 iX9_14 (ax_gR G20p (a + 2) 1 (some (ax_top G20))) I20p L20p := h_
  generalize ax_gR G20p (a + 2) 1 (some (ax_top G20)) = G22 at hB22 ⊢
  have hL22 : List.length tX9_16 = 17 := by decide +kernel
  have hT22 : ax_top G22 = a + 17 := by have h := hB22.1; rw [hL22] at h; exact h
  have hU22 : ax_used G22 = ax_used G + 179 := hB22.2.1
  clear hL22
  clear h_ hq
  clear hB20 hT20 hU20 hB21 hT21 hU21
  refine x_aload_n C (dk ddX9_init 48 rfl) rfl ?_
  refine x_getr C flX9_41 rfl (by have h := hT22; show a < ax_top G22; omega) (show ax_K G22 a = 8 + 9 from (hB22.2.2.1 0 (17, 0, [(9, 4), (8, 3), (7, 2), (0, 1)]) (by decide +kernel)).1) (show ax_R G22 a 8 = some (a + 3) from (hB22.2.2.1 0 (17, 0, [(9, 4), (8, 3), (7, 2), (0, 1)]) (by decide +kernel)).2.2 (8, 3) (by decide)) (dk ddX9_init 49 rfl) ?_
  refine x_iload_n C (dk ddX9_init 50 rfl) rfl ?_
  refine x_new C (ci := 8) (q0 := (RX8, TX8, 4)) (tyf := tyX8) rfl cw8 tyX8_ok dfX8 (ax_inT 1 120 (by decide +kernel)) (ax_inT 1 122 (by decide +kernel)) miX8 (by have h := hT22; show ax_top G22 + 1 ≤ ax_top G + 49; omega) (by have h := hU22; show ax_used G22 + 4 ≤ ax_used G + 355; omega) (dk ddX9_init 51 rfl) ?_
  refine x_dup C (dk ddX9_init 52 rfl) rfl ?_
  refine x_callI C (As := []) (k_X8_init l D T o (d - 1) (ax_new G22 16 0 4) (ax_z I20p (ax_top G22) 0) (ax_z L20p (ax_top G22) 0) (ax_top G22) rfl (ax_new_K G22 16 0 4) (ax_new_N G22 16 0 4) (ax_z_eq _ _ _) (ax_z_eq _ _ _) (by omega)) mlX9_47 ⟨by show d - 1 + 1 ≤ d; omega, by show 40 * (d - 1 + 1) ≤ 40 * d; omega⟩ ⟨by have h := hT22; show ax_top G22 + 1 + 2 ≤ ax_top G + 49; omega, by have h := hU22; show ax_used G22 + 4 + 12 ≤ ax_used G + 355; omega⟩ rfl (Nat.le_of_ble_eq_true rfl) (dk ddX9_init 53 rfl) ?_
  rintro v_ G22p I22p L22p ⟨rfl, hp⟩
  have hq := hB22.obj hp
  clear hp
  have hB23 : ax_Bt G I L a (ax_used G + 195) tX9_17 iX9_15 G22p I22p L22p := hq
  have hL23 : List.length tX9_17 = 20 := by decide +kernel
  have hT23 : ax_top G22p = a + 20 := by have h := hB23.1; rw [hL23] at h; exact h
  have hU23 : ax_used G22p = ax_used G + 195 := hB23.2.1
  clear hL23
  refine x_aast C (t := 4) (ci := 8) (n := 5) (i := 1) (r := (RX8, TX8, 4)) (by have h := hT23; show a + 3 < ax_top G22p; omega) (show ax_K G22p (a + 3) = 4 from (hB23.2.2.1 3 (4, 5, [(0, 8)]) (by decide +kernel)).1) (hB23.2.2.1 3 (4, 5, [(0, 8)]) (by decide +kernel)).2.1 (by decide) (by decide) rfl rfl (by have h := hT23; have h2 := hT22; omega) (by rw [hT22]; exact (hB23.2.2.1 17 (16, 0, [(3, 19), (2, 18)]) (by decide +kernel)).1) (by decide) (by decide) (dk ddX9_init 54 rfl) ?_
  have h_ := hB23.ref (j := 3) (k := 1) (b := List.length tX9_16) (x := (4, 5, [(0, 8)])) (by decide +kernel) (by decide +kernel)
  rw [← hB22.1] at h_
  have hB24 : ax_Bt G I L a (ax_used G + 195) tX9_18 iX9_15 (ax_gR G22p (a + 3) 1 (some (ax_top G22))) I22p L22p := h_
  generalize ax_gR G22p (a + 3) 1 (some (ax_top G22)) = G24 at hB24 ⊢
  have hL24 : List.length tX9_18 = 20 := by decide +kernel
  have hT24 : ax_top G24 = a + 20 := by have h := hB24.1; rw [hL24] at h; exact h
  have hU24 : ax_used G24 = ax_used G + 195 := hB24.2.1
  clear hL24
  clear h_ hq
  clear hB22 hT22 hU22 hB23 hT23 hU23
  refine x_aload_n C (dk ddX9_init 55 rfl) rfl ?_
  refine x_getr C flX9_44 rfl (by have h := hT24; show a < ax_top G24; omega) (show ax_K G24 a = 8 + 9 from (hB24.2.2.1 0 (17, 0, [(9, 4), (8, 3), (7, 2), (0, 1)]) (by decide +kernel)).1) (show ax_R G24 a 9 = some (a + 4) from (hB24.2.2.1 0 (17, 0, [(9, 4), (8, 3), (7, 2), (0, 1)]) (by decide +kernel)).2.2 (9, 4) (by decide)) (dk ddX9_init 56 rfl) ?_
  refine x_iload_n C (dk ddX9_init 57 rfl) rfl ?_
  refine x_new C (ci := 8) (q0 := (RX8, TX8, 4)) (tyf := tyX8) rfl cw8 tyX8_ok dfX8 (ax_inT 1 120 (by decide +kernel)) (ax_inT 1 122 (by decide +kernel)) miX8 (by have h := hT24; show ax_top G24 + 1 ≤ ax_top G + 49; omega) (by have h := hU24; show ax_used G24 + 4 ≤ ax_used G + 355; omega) (dk ddX9_init 58 rfl) ?_
  refine x_dup C (dk ddX9_init 59 rfl) rfl ?_
  refine x_callI C (As := []) (k_X8_init l D T o (d - 1) (ax_new G24 16 0 4) (ax_z I22p (ax_top G24) 0) (ax_z L22p (ax_top G24) 0) (ax_top G24) rfl (ax_new_K G24 16 0 4) (ax_new_N G24 16 0 4) (ax_z_eq _ _ _) (ax_z_eq _ _ _) (by omega)) mlX9_47 ⟨by show d - 1 + 1 ≤ d; omega, by show 40 * (d - 1 + 1) ≤ 40 * d; omega⟩ ⟨by have h := hT24; show ax_top G24 + 1 + 2 ≤ ax_top G + 49; omega, by have h := hU24; show ax_used G24 + 4 + 12 ≤ ax_used G + 355; omega⟩ rfl (Nat.le_of_ble_eq_true rfl) (dk ddX9_init 60 rfl) ?_
  rintro v_ G24p I24p L24p ⟨rfl, hp⟩
  have hq := hB24.obj hp
  clear hp
  have hB25 : ax_Bt G I L a (ax_used G + 211) tX9_19 iX9_16 G24p I24p L24p := hq
  have hL25 : List.length tX9_19 = 23 := by decide +kernel
  have hT25 : ax_top G24p = a + 23 := by have h := hB25.1; rw [hL25] at h; exact h
  have hU25 : ax_used G24p = ax_used G + 211 := hB25.2.1
  clear hL25
  refine x_aast C (t := 4) (ci := 8) (n := 5) (i := 1) (r := (RX8, TX8, 4)) (by have h := hT25; show a + 4 < ax_top G24p; omega) (show ax_K G24p (a + 4) = 4 from (hB25.2.2.1 4 (4, 5, [(0, 11)]) (by decide +kernel)).1) (hB25.2.2.1 4 (4, 5, [(0, 11)]) (by decide +kernel)).2.1 (by decide) (by decide) rfl rfl (by have h := hT25; have h2 := hT24; omega) (by rw [hT24]; exact (hB25.2.2.1 20 (16, 0, [(3, 22), (2, 21)]) (by decide +kernel)).1) (by decide) (by decide) (dk ddX9_init 61 rfl) ?_
  have h_ := hB25.ref (j := 4) (k := 1) (b := List.length tX9_18) (x := (4, 5, [(0, 11)])) (by decide +kernel) (by decide +kernel)
  rw [← hB24.1] at h_
  have hB26 : ax_Bt G I L a (ax_used G + 211) tX9_20 iX9_16 (ax_gR G24p (a + 4) 1 (some (ax_top G24))) I24p L24p := h_
  generalize ax_gR G24p (a + 4) 1 (some (ax_top G24)) = G26 at hB26 ⊢
  have hL26 : List.length tX9_20 = 23 := by decide +kernel
  have hT26 : ax_top G26 = a + 23 := by have h := hB26.1; rw [hL26] at h; exact h
  have hU26 : ax_used G26 = ax_used G + 211 := hB26.2.1
  clear hL26
  clear h_ hq
  clear hB24 hT24 hU24 hB25 hT25 hU25
  refine x_iinc C (v := nI 2) (lv' := [(1, .int (nI 2)), (0, .ref a)]) (dk ddX9_init 62 rfl) rfl (by decide) (by decide) rfl ?_
  refine x_goto C (tgt := 68) (dk ddX9_init 63 rfl) (by decide) ?_
  refine x_iload_n C (dk ddX9_init 38 rfl) rfl ?_
  refine x_iconst C (v := nI 4) (dk ddX9_init 39 rfl) (by decide) ?_
  refine x_icmp_gt C (tgt := 118) (dk ddX9_init 40 rfl) (by decide) (fun h_ => absurd h_ (by decide)) (fun h_ => ?_)
  clear h_
  refine x_aload_n C (dk ddX9_init 41 rfl) rfl ?_
  refine x_getr C flX9_37 rfl (by have h := hT26; show a < ax_top G26; omega) (show ax_K G26 a = 8 + 9 from (hB26.2.2.1 0 (17, 0, [(9, 4), (8, 3), (7, 2), (0, 1)]) (by decide +kernel)).1) (show ax_R G26 a 7 = some (a + 2) from (hB26.2.2.1 0 (17, 0, [(9, 4), (8, 3), (7, 2), (0, 1)]) (by decide +kernel)).2.2 (7, 2) (by decide)) (dk ddX9_init 42 rfl) ?_
  refine x_iload_n C (dk ddX9_init 43 rfl) rfl ?_
  refine x_new C (ci := 8) (q0 := (RX8, TX8, 4)) (tyf := tyX8) rfl cw8 tyX8_ok dfX8 (ax_inT 1 120 (by decide +kernel)) (ax_inT 1 122 (by decide +kernel)) miX8 (by have h := hT26; show ax_top G26 + 1 ≤ ax_top G + 49; omega) (by have h := hU26; show ax_used G26 + 4 ≤ ax_used G + 355; omega) (dk ddX9_init 44 rfl) ?_
  refine x_dup C (dk ddX9_init 45 rfl) rfl ?_
  refine x_callI C (As := []) (k_X8_init l D T o (d - 1) (ax_new G26 16 0 4) (ax_z I24p (ax_top G26) 0) (ax_z L24p (ax_top G26) 0) (ax_top G26) rfl (ax_new_K G26 16 0 4) (ax_new_N G26 16 0 4) (ax_z_eq _ _ _) (ax_z_eq _ _ _) (by omega)) mlX9_47 ⟨by show d - 1 + 1 ≤ d; omega, by show 40 * (d - 1 + 1) ≤ 40 * d; omega⟩ ⟨by have h := hT26; show ax_top G26 + 1 + 2 ≤ ax_top G + 49; omega, by have h := hU26; show ax_used G26 + 4 + 12 ≤ ax_used G + 355; omega⟩ rfl (Nat.le_of_ble_eq_true rfl) (dk ddX9_init 46 rfl) ?_
  rintro v_ G26p I26p L26p ⟨rfl, hp⟩
  have hq := hB26.obj hp
  clear hp
  have hB27 : ax_Bt G I L a (ax_used G + 227) tX9_21 iX9_17 G26p I26p L26p := hq
  have hL27 : List.length tX9_21 = 26 := by decide +kernel
  have hT27 : ax_top G26p = a + 26 := by have h := hB27.1; rw [hL27] at h; exact h
  have hU27 : ax_used G26p = ax_used G + 227 := hB27.2.1
  clear hL27
  refine x_aast C (t := 4) (ci := 8) (n := 5) (i := 2) (r := (RX8, TX8, 4)) (by have h := hT27; show a + 2 < ax_top G26p; omega) (show ax_K G26p (a + 2) = 4 from (hB27.2.2.1 2 (4, 5, [(1, 14), (0, 5)]) (by decide +kernel)).1) (hB27.2.2.1 2 (4, 5, [(1, 14), (0, 5)]) (by decide +kernel)).2.1 (by decide) (by decide) rfl rfl (by have h := hT27; have h2 := hT26; omega) (by rw [hT26]; exact (hB27.2.2.1 23 (16, 0, [(3, 25), (2, 24)]) (by decide +kernel)).1) (by decide) (by decide) (dk ddX9_init 47 rfl) ?_
  have h_ := hB27.ref (j := 2) (k := 2) (b := List.length tX9_20) (x := (4, 5, [(1, 14), (0, 5)])) (by decide +kernel) (by decide +kernel)
  rw [← hB26.1] at h_
  have hB28 : ax_Bt G I L a (ax_used G + 227) tX9_22 iX9_17 (ax_gR G26p (a + 2) 2 (some (ax_top G26))) I26p L26p := h_
  generalize ax_gR G26p (a + 2) 2 (some (ax_top G26)) = G28 at hB28 ⊢
  have hL28 : List.length tX9_22 = 26 := by decide +kernel
  have hT28 : ax_top G28 = a + 26 := by have h := hB28.1; rw [hL28] at h; exact h
  have hU28 : ax_used G28 = ax_used G + 227 := hB28.2.1
  clear hL28
  clear h_ hq
  clear hB26 hT26 hU26 hB27 hT27 hU27
  refine x_aload_n C (dk ddX9_init 48 rfl) rfl ?_
  refine x_getr C flX9_41 rfl (by have h := hT28; show a < ax_top G28; omega) (show ax_K G28 a = 8 + 9 from (hB28.2.2.1 0 (17, 0, [(9, 4), (8, 3), (7, 2), (0, 1)]) (by decide +kernel)).1) (show ax_R G28 a 8 = some (a + 3) from (hB28.2.2.1 0 (17, 0, [(9, 4), (8, 3), (7, 2), (0, 1)]) (by decide +kernel)).2.2 (8, 3) (by decide)) (dk ddX9_init 49 rfl) ?_
  refine x_iload_n C (dk ddX9_init 50 rfl) rfl ?_
  refine x_new C (ci := 8) (q0 := (RX8, TX8, 4)) (tyf := tyX8) rfl cw8 tyX8_ok dfX8 (ax_inT 1 120 (by decide +kernel)) (ax_inT 1 122 (by decide +kernel)) miX8 (by have h := hT28; show ax_top G28 + 1 ≤ ax_top G + 49; omega) (by have h := hU28; show ax_used G28 + 4 ≤ ax_used G + 355; omega) (dk ddX9_init 51 rfl) ?_
  refine x_dup C (dk ddX9_init 52 rfl) rfl ?_
  refine x_callI C (As := []) (k_X8_init l D T o (d - 1) (ax_new G28 16 0 4) (ax_z I26p (ax_top G28) 0) (ax_z L26p (ax_top G28) 0) (ax_top G28) rfl (ax_new_K G28 16 0 4) (ax_new_N G28 16 0 4) (ax_z_eq _ _ _) (ax_z_eq _ _ _) (by omega)) mlX9_47 ⟨by show d - 1 + 1 ≤ d; omega, by show 40 * (d - 1 + 1) ≤ 40 * d; omega⟩ ⟨by have h := hT28; show ax_top G28 + 1 + 2 ≤ ax_top G + 49; omega, by have h := hU28; show ax_used G28 + 4 + 12 ≤ ax_used G + 355; omega⟩ rfl (Nat.le_of_ble_eq_true rfl) (dk ddX9_init 53 rfl) ?_
  rintro v_ G28p I28p L28p ⟨rfl, hp⟩
  have hq := hB28.obj hp
  clear hp
  have hB29 : ax_Bt G I L a (ax_used G + 243) tX9_23 iX9_18 G28p I28p L28p := hq
  have hL29 : List.length tX9_23 = 29 := by decide +kernel
  have hT29 : ax_top G28p = a + 29 := by have h := hB29.1; rw [hL29] at h; exact h
  have hU29 : ax_used G28p = ax_used G + 243 := hB29.2.1
  clear hL29
  refine x_aast C (t := 4) (ci := 8) (n := 5) (i := 2) (r := (RX8, TX8, 4)) (by have h := hT29; show a + 3 < ax_top G28p; omega) (show ax_K G28p (a + 3) = 4 from (hB29.2.2.1 3 (4, 5, [(1, 17), (0, 8)]) (by decide +kernel)).1) (hB29.2.2.1 3 (4, 5, [(1, 17), (0, 8)]) (by decide +kernel)).2.1 (by decide) (by decide) rfl rfl (by have h := hT29; have h2 := hT28; omega) (by rw [hT28]; exact (hB29.2.2.1 26 (16, 0, [(3, 28), (2, 27)]) (by decide +kernel)).1) (by decide) (by decide) (dk ddX9_init 54 rfl) ?_
  have h_ := hB29.ref (j := 3) (k := 2) (b := List.length tX9_22) (x := (4, 5, [(1, 17), (0, 8)])) (by decide +kernel) (by decide +kernel)
  rw [← hB28.1] at h_
  have hB30 : ax_Bt G I L a (ax_used G + 243) tX9_24 iX9_18 (ax_gR G28p (a + 3) 2 (some (ax_top G28))) I28p L28p := h_
  generalize ax_gR G28p (a + 3) 2 (some (ax_top G28)) = G30 at hB30 ⊢
  have hL30 : List.length tX9_24 = 29 := by decide +kernel
  have hT30 : ax_top G30 = a + 29 := by have h := hB30.1; rw [hL30] at h; exact h
  have hU30 : ax_used G30 = ax_used G + 243 := hB30.2.1
  clear hL30
  clear h_ hq
  clear hB28 hT28 hU28 hB29 hT29 hU29
  refine x_aload_n C (dk ddX9_init 55 rfl) rfl ?_
  refine x_getr C flX9_44 rfl (by have h := hT30; show a < ax_top G30; omega) (show ax_K G30 a = 8 + 9 from (hB30.2.2.1 0 (17, 0, [(9, 4), (8, 3), (7, 2), (0, 1)]) (by decide +kernel)).1) (show ax_R G30 a 9 = some (a + 4) from (hB30.2.2.1 0 (17, 0, [(9, 4), (8, 3), (7, 2), (0, 1)]) (by decide +kernel)).2.2 (9, 4) (by decide)) (dk ddX9_init 56 rfl) ?_
  refine x_iload_n C (dk ddX9_init 57 rfl) rfl ?_
  refine x_new C (ci := 8) (q0 := (RX8, TX8, 4)) (tyf := tyX8) rfl cw8 tyX8_ok dfX8 (ax_inT 1 120 (by decide +kernel)) (ax_inT 1 122 (by decide +kernel)) miX8 (by have h := hT30; show ax_top G30 + 1 ≤ ax_top G + 49; omega) (by have h := hU30; show ax_used G30 + 4 ≤ ax_used G + 355; omega) (dk ddX9_init 58 rfl) ?_
  refine x_dup C (dk ddX9_init 59 rfl) rfl ?_
  refine x_callI C (As := []) (k_X8_init l D T o (d - 1) (ax_new G30 16 0 4) (ax_z I28p (ax_top G30) 0) (ax_z L28p (ax_top G30) 0) (ax_top G30) rfl (ax_new_K G30 16 0 4) (ax_new_N G30 16 0 4) (ax_z_eq _ _ _) (ax_z_eq _ _ _) (by omega)) mlX9_47 ⟨by show d - 1 + 1 ≤ d; omega, by show 40 * (d - 1 + 1) ≤ 40 * d; omega⟩ ⟨by have h := hT30; show ax_top G30 + 1 + 2 ≤ ax_top G + 49; omega, by have h := hU30; show ax_used G30 + 4 + 12 ≤ ax_used G + 355; omega⟩ rfl (Nat.le_of_ble_eq_true rfl) (dk ddX9_init 60 rfl) ?_
  rintro v_ G30p I30p L30p ⟨rfl, hp⟩
  have hq := hB30.obj hp
  clear hp
  have hB31 : ax_Bt G I L a (ax_used G + 259) tX9_25 iX9_19 G30p I30p L30p := hq
  have hL31 : List.length tX9_25 = 32 := by decide +kernel
  have hT31 : ax_top G30p = a + 32 := by have h := hB31.1; rw [hL31] at h; exact h
  have hU31 : ax_used G30p = ax_used G + 259 := hB31.2.1
  clear hL31
  refine x_aast C (t := 4) (ci := 8) (n := 5) (i := 2) (r := (RX8, TX8, 4)) (by have h := hT31; show a + 4 < ax_top G30p; omega) (show ax_K G30p (a + 4) = 4 from (hB31.2.2.1 4 (4, 5, [(1, 20), (0, 11)]) (by decide +kernel)).1) (hB31.2.2.1 4 (4, 5, [(1, 20), (0, 11)]) (by decide +kernel)).2.1 (by decide) (by decide) rfl rfl (by have h := hT31; have h2 := hT30; omega) (by rw [hT30]; exact (hB31.2.2.1 29 (16, 0, [(3, 31), (2, 30)]) (by decide +kernel)).1) (by decide) (by decide) (dk ddX9_init 61 rfl) ?_
  have h_ := hB31.ref (j := 4) (k := 2) (b := List.length tX9_24) (x := (4, 5, [(1, 20), (0, 11)])) (by decide +kernel) (by decide +kernel)
  rw [← hB30.1] at h_
  have hB32 : ax_Bt G I L a (ax_used G + 259) tX9_26 iX9_19 (ax_gR G30p (a + 4) 2 (some (ax_top G30))) I30p L30p := h_
  generalize ax_gR G30p (a + 4) 2 (some (ax_top G30)) = G32 at hB32 ⊢
  have hL32 : List.length tX9_26 = 32 := by decide +kernel
  have hT32 : ax_top G32 = a + 32 := by have h := hB32.1; rw [hL32] at h; exact h
  have hU32 : ax_used G32 = ax_used G + 259 := hB32.2.1
  clear hL32
  clear h_ hq
  clear hB30 hT30 hU30 hB31 hT31 hU31
  refine x_iinc C (v := nI 3) (lv' := [(1, .int (nI 3)), (0, .ref a)]) (dk ddX9_init 62 rfl) rfl (by decide) (by decide) rfl ?_
  refine x_goto C (tgt := 68) (dk ddX9_init 63 rfl) (by decide) ?_
  refine x_iload_n C (dk ddX9_init 38 rfl) rfl ?_
  refine x_iconst C (v := nI 4) (dk ddX9_init 39 rfl) (by decide) ?_
  refine x_icmp_gt C (tgt := 118) (dk ddX9_init 40 rfl) (by decide) (fun h_ => absurd h_ (by decide)) (fun h_ => ?_)
  clear h_
  refine x_aload_n C (dk ddX9_init 41 rfl) rfl ?_
  refine x_getr C flX9_37 rfl (by have h := hT32; show a < ax_top G32; omega) (show ax_K G32 a = 8 + 9 from (hB32.2.2.1 0 (17, 0, [(9, 4), (8, 3), (7, 2), (0, 1)]) (by decide +kernel)).1) (show ax_R G32 a 7 = some (a + 2) from (hB32.2.2.1 0 (17, 0, [(9, 4), (8, 3), (7, 2), (0, 1)]) (by decide +kernel)).2.2 (7, 2) (by decide)) (dk ddX9_init 42 rfl) ?_
  refine x_iload_n C (dk ddX9_init 43 rfl) rfl ?_
  refine x_new C (ci := 8) (q0 := (RX8, TX8, 4)) (tyf := tyX8) rfl cw8 tyX8_ok dfX8 (ax_inT 1 120 (by decide +kernel)) (ax_inT 1 122 (by decide +kernel)) miX8 (by have h := hT32; show ax_top G32 + 1 ≤ ax_top G + 49; omega) (by have h := hU32; show ax_used G32 + 4 ≤ ax_used G + 355; omega) (dk ddX9_init 44 rfl) ?_
  refine x_dup C (dk ddX9_init 45 rfl) rfl ?_
  refine x_callI C (As := []) (k_X8_init l D T o (d - 1) (ax_new G32 16 0 4) (ax_z I30p (ax_top G32) 0) (ax_z L30p (ax_top G32) 0) (ax_top G32) rfl (ax_new_K G32 16 0 4) (ax_new_N G32 16 0 4) (ax_z_eq _ _ _) (ax_z_eq _ _ _) (by omega)) mlX9_47 ⟨by show d - 1 + 1 ≤ d; omega, by show 40 * (d - 1 + 1) ≤ 40 * d; omega⟩ ⟨by have h := hT32; show ax_top G32 + 1 + 2 ≤ ax_top G + 49; omega, by have h := hU32; show ax_used G32 + 4 + 12 ≤ ax_used G + 355; omega⟩ rfl (Nat.le_of_ble_eq_true rfl) (dk ddX9_init 46 rfl) ?_
  rintro v_ G32p I32p L32p ⟨rfl, hp⟩
  have hq := hB32.obj hp
  clear hp
  have hB33 : ax_Bt G I L a (ax_used G + 275) tX9_27 iX9_20 G32p I32p L32p := hq
  have hL33 : List.length tX9_27 = 35 := by decide +kernel
  have hT33 : ax_top G32p = a + 35 := by have h := hB33.1; rw [hL33] at h; exact h
  have hU33 : ax_used G32p = ax_used G + 275 := hB33.2.1
  clear hL33
  refine x_aast C (t := 4) (ci := 8) (n := 5) (i := 3) (r := (RX8, TX8, 4)) (by have h := hT33; show a + 2 < ax_top G32p; omega) (show ax_K G32p (a + 2) = 4 from (hB33.2.2.1 2 (4, 5, [(2, 23), (1, 14), (0, 5)]) (by decide +kernel)).1) (hB33.2.2.1 2 (4, 5, [(2, 23), (1, 14), (0, 5)]) (by decide +kernel)).2.1 (by decide) (by decide) rfl rfl (by have h := hT33; have h2 := hT32; omega) (by rw [hT32]; exact (hB33.2.2.1 32 (16, 0, [(3, 34), (2, 33)]) (by decide +kernel)).1) (by decide) (by decide) (dk ddX9_init 47 rfl) ?_
  have h_ := hB33.ref (j := 2) (k := 3) (b := List.length tX9_26) (x := (4, 5, [(2, 23), (1, 14), (0, 5)])) (by decide +kernel) (by decide +kernel)
  rw [← hB32.1] at h_
  have hB34 : ax_Bt G I L a (ax_used G + 275) tX9_28 iX9_20 (ax_gR G32p (a + 2) 3 (some (ax_top G32))) I32p L32p := h_
  generalize ax_gR G32p (a + 2) 3 (some (ax_top G32)) = G34 at hB34 ⊢
  have hL34 : List.length tX9_28 = 35 := by decide +kernel
  have hT34 : ax_top G34 = a + 35 := by have h := hB34.1; rw [hL34] at h; exact h
  have hU34 : ax_used G34 = ax_used G + 275 := hB34.2.1
  clear hL34
  clear h_ hq
  clear hB32 hT32 hU32 hB33 hT33 hU33
  refine x_aload_n C (dk ddX9_init 48 rfl) rfl ?_
  refine x_getr C flX9_41 rfl (by have h := hT34; show a < ax_top G34; omega) (show ax_K G34 a = 8 + 9 from (hB34.2.2.1 0 (17, 0, [(9, 4), (8, 3), (7, 2), (0, 1)]) (by decide +kernel)).1) (show ax_R G34 a 8 = some (a + 3) from (hB34.2.2.1 0 (17, 0, [(9, 4), (8, 3), (7, 2), (0, 1)]) (by decide +kernel)).2.2 (8, 3) (by decide)) (dk ddX9_init 49 rfl) ?_
  refine x_iload_n C (dk ddX9_init 50 rfl) rfl ?_
  refine x_new C (ci := 8) (q0 := (RX8, TX8, 4)) (tyf := tyX8) rfl cw8 tyX8_ok dfX8 (ax_inT 1 120 (by decide +kernel)) (ax_inT 1 122 (by decide +kernel)) miX8 (by have h := hT34; show ax_top G34 + 1 ≤ ax_top G + 49; omega) (by have h := hU34; show ax_used G34 + 4 ≤ ax_used G + 355; omega) (dk ddX9_init 51 rfl) ?_
  refine x_dup C (dk ddX9_init 52 rfl) rfl ?_
  refine x_callI C (As := []) (k_X8_init l D T o (d - 1) (ax_new G34 16 0 4) (ax_z I32p (ax_top G34) 0) (ax_z L32p (ax_top G34) 0) (ax_top G34) rfl (ax_new_K G34 16 0 4) (ax_new_N G34 16 0 4) (ax_z_eq _ _ _) (ax_z_eq _ _ _) (by omega)) mlX9_47 ⟨by show d - 1 + 1 ≤ d; omega, by show 40 * (d - 1 + 1) ≤ 40 * d; omega⟩ ⟨by have h := hT34; show ax_top G34 + 1 + 2 ≤ ax_top G + 49; omega, by have h := hU34; show ax_used G34 + 4 + 12 ≤ ax_used G + 355; omega⟩ rfl (Nat.le_of_ble_eq_true rfl) (dk ddX9_init 53 rfl) ?_
  rintro v_ G34p I34p L34p ⟨rfl, hp⟩
  have hq := hB34.obj hp
  clear hp
  have hB35 : ax_Bt G I L a (ax_used G + 291) tX9_29 iX9_21 G34p I34p L34p := hq
  have hL35 : List.length tX9_29 = 38 := by decide +kernel
  have hT35 : ax_top G34p = a + 38 := by have h := hB35.1; rw [hL35] at h; exact h
  have hU35 : ax_used G34p = ax_used G + 291 := hB35.2.1
  clear hL35
  refine x_aast C (t := 4) (ci := 8) (n := 5) (i := 3) (r := (RX8, TX8, 4)) (by have h := hT35; show a + 3 < ax_top G34p; omega) (show ax_K G34p (a + 3) = 4 from (hB35.2.2.1 3 (4, 5, [(2, 26), (1, 17), (0, 8)]) (by decide +kernel)).1) (hB35.2.2.1 3 (4, 5, [(2, 26), (1, 17), (0, 8)]) (by decide +kernel)).2.1 (by decide) (by decide) rfl rfl (by have h := hT35; have h2 := hT34; omega) (by rw [hT34]; exact (hB35.2.2.1 35 (16, 0, [(3, 37), (2, 36)]) (by decide +kernel)).1) (by decide) (by decide) (dk ddX9_init 54 rfl) ?_
  have h_ := hB35.ref (j := 3) (k := 3) (b := List.length tX9_28) (x := (4, 5, [(2, 26), (1, 17), (0, 8)])) (by decide +kernel) (by decide +kernel)
  rw [← hB34.1] at h_
  have hB36 : ax_Bt G I L a (ax_used G + 291) tX9_30 iX9_21 (ax_gR G34p (a + 3) 3 (some (ax_top G34))) I34p L34p := h_
  generalize ax_gR G34p (a + 3) 3 (some (ax_top G34)) = G36 at hB36 ⊢
  have hL36 : List.length tX9_30 = 38 := by decide +kernel
  have hT36 : ax_top G36 = a + 38 := by have h := hB36.1; rw [hL36] at h; exact h
  have hU36 : ax_used G36 = ax_used G + 291 := hB36.2.1
  clear hL36
  clear h_ hq
  clear hB34 hT34 hU34 hB35 hT35 hU35
  refine x_aload_n C (dk ddX9_init 55 rfl) rfl ?_
  refine x_getr C flX9_44 rfl (by have h := hT36; show a < ax_top G36; omega) (show ax_K G36 a = 8 + 9 from (hB36.2.2.1 0 (17, 0, [(9, 4), (8, 3), (7, 2), (0, 1)]) (by decide +kernel)).1) (show ax_R G36 a 9 = some (a + 4) from (hB36.2.2.1 0 (17, 0, [(9, 4), (8, 3), (7, 2), (0, 1)]) (by decide +kernel)).2.2 (9, 4) (by decide)) (dk ddX9_init 56 rfl) ?_
  refine x_iload_n C (dk ddX9_init 57 rfl) rfl ?_
  refine x_new C (ci := 8) (q0 := (RX8, TX8, 4)) (tyf := tyX8) rfl cw8 tyX8_ok dfX8 (ax_inT 1 120 (by decide +kernel)) (ax_inT 1 122 (by decide +kernel)) miX8 (by have h := hT36; show ax_top G36 + 1 ≤ ax_top G + 49; omega) (by have h := hU36; show ax_used G36 + 4 ≤ ax_used G + 355; omega) (dk ddX9_init 58 rfl) ?_
  refine x_dup C (dk ddX9_init 59 rfl) rfl ?_
  refine x_callI C (As := []) (k_X8_init l D T o (d - 1) (ax_new G36 16 0 4) (ax_z I34p (ax_top G36) 0) (ax_z L34p (ax_top G36) 0) (ax_top G36) rfl (ax_new_K G36 16 0 4) (ax_new_N G36 16 0 4) (ax_z_eq _ _ _) (ax_z_eq _ _ _) (by omega)) mlX9_47 ⟨by show d - 1 + 1 ≤ d; omega, by show 40 * (d - 1 + 1) ≤ 40 * d; omega⟩ ⟨by have h := hT36; show ax_top G36 + 1 + 2 ≤ ax_top G + 49; omega, by have h := hU36; show ax_used G36 + 4 + 12 ≤ ax_used G + 355; omega⟩ rfl (Nat.le_of_ble_eq_true rfl) (dk ddX9_init 60 rfl) ?_
  rintro v_ G36p I36p L36p ⟨rfl, hp⟩
  have hq := hB36.obj hp
  clear hp
  have hB37 : ax_Bt G I L a (ax_used G + 307) tX9_31 iX9_22 G36p I36p L36p := hq
  have hL37 : List.length tX9_31 = 41 := by decide +kernel
  have hT37 : ax_top G36p = a + 41 := by have h := hB37.1; rw [hL37] at h; exact h
  have hU37 : ax_used G36p = ax_used G + 307 := hB37.2.1
  clear hL37
  refine x_aast C (t := 4) (ci := 8) (n := 5) (i := 3) (r := (RX8, TX8, 4)) (by have h := hT37; show a + 4 < ax_top G36p; omega) (show ax_K G36p (a + 4) = 4 from (hB37.2.2.1 4 (4, 5, [(2, 29), (1, 20), (0, 11)]) (by decide +kernel)).1) (hB37.2.2.1 4 (4, 5, [(2, 29), (1, 20), (0, 11)]) (by decide +kernel)).2.1 (by decide) (by decide) rfl rfl (by have h := hT37; have h2 := hT36; omega) (by rw [hT36]; exact (hB37.2.2.1 38 (16, 0, [(3, 40), (2, 39)]) (by decide +kernel)).1) (by decide) (by decide) (dk ddX9_init 61 rfl) ?_
  have h_ := hB37.ref (j := 4) (k := 3) (b := List.length tX9_30) (x := (4, 5, [(2, 29), (1, 20), (0, 11)])) (by decide +kernel) (by decide +kernel)
  rw [← hB36.1] at h_
  have hB38 : ax_Bt G I L a (ax_used G + 307) tX9_32 iX9_22 (ax_gR G36p (a + 4) 3 (some (ax_top G36))) I36p L36p := h_
  generalize ax_gR G36p (a + 4) 3 (some (ax_top G36)) = G38 at hB38 ⊢
  have hL38 : List.length tX9_32 = 41 := by decide +kernel
  have hT38 : ax_top G38 = a + 41 := by have h := hB38.1; rw [hL38] at h; exact h
  have hU38 : ax_used G38 = ax_used G + 307 := hB38.2.1
  clear hL38
  clear h_ hq
  clear hB36 hT36 hU36 hB37 hT37 hU37
  refine x_iinc C (v := nI 4) (lv' := [(1, .int (nI 4)), (0, .ref a)]) (dk ddX9_init 62 rfl) rfl (by decide) (by decide) rfl ?_
  refine x_goto C (tgt := 68) (dk ddX9_init 63 rfl) (by decide) ?_
  refine x_iload_n C (dk ddX9_init 38 rfl) rfl ?_
  refine x_iconst C (v := nI 4) (dk ddX9_init 39 rfl) (by decide) ?_
  refine x_icmp_gt C (tgt := 118) (dk ddX9_init 40 rfl) (by decide) (fun h_ => absurd h_ (by decide)) (fun h_ => ?_)
  clear h_
  refine x_aload_n C (dk ddX9_init 41 rfl) rfl ?_
  refine x_getr C flX9_37 rfl (by have h := hT38; show a < ax_top G38; omega) (show ax_K G38 a = 8 + 9 from (hB38.2.2.1 0 (17, 0, [(9, 4), (8, 3), (7, 2), (0, 1)]) (by decide +kernel)).1) (show ax_R G38 a 7 = some (a + 2) from (hB38.2.2.1 0 (17, 0, [(9, 4), (8, 3), (7, 2), (0, 1)]) (by decide +kernel)).2.2 (7, 2) (by decide)) (dk ddX9_init 42 rfl) ?_
  refine x_iload_n C (dk ddX9_init 43 rfl) rfl ?_
  refine x_new C (ci := 8) (q0 := (RX8, TX8, 4)) (tyf := tyX8) rfl cw8 tyX8_ok dfX8 (ax_inT 1 120 (by decide +kernel)) (ax_inT 1 122 (by decide +kernel)) miX8 (by have h := hT38; show ax_top G38 + 1 ≤ ax_top G + 49; omega) (by have h := hU38; show ax_used G38 + 4 ≤ ax_used G + 355; omega) (dk ddX9_init 44 rfl) ?_
  refine x_dup C (dk ddX9_init 45 rfl) rfl ?_
  refine x_callI C (As := []) (k_X8_init l D T o (d - 1) (ax_new G38 16 0 4) (ax_z I36p (ax_top G38) 0) (ax_z L36p (ax_top G38) 0) (ax_top G38) rfl (ax_new_K G38 16 0 4) (ax_new_N G38 16 0 4) (ax_z_eq _ _ _) (ax_z_eq _ _ _) (by omega)) mlX9_47 ⟨by show d - 1 + 1 ≤ d; omega, by show 40 * (d - 1 + 1) ≤ 40 * d; omega⟩ ⟨by have h := hT38; show ax_top G38 + 1 + 2 ≤ ax_top G + 49; omega, by have h := hU38; show ax_used G38 + 4 + 12 ≤ ax_used G + 355; omega⟩ rfl (Nat.le_of_ble_eq_true rfl) (dk ddX9_init 46 rfl) ?_
  rintro v_ G38p I38p L38p ⟨rfl, hp⟩
  have hq := hB38.obj hp
  clear hp
  have hB39 : ax_Bt G I L a (ax_used G + 323) tX9_33 iX9_23 G38p I38p L38p := hq
  have hL39 : List.length tX9_33 = 44 := by decide +kernel
  have hT39 : ax_top G38p = a + 44 := by have h := hB39.1; rw [hL39] at h; exact h
  have hU39 : ax_used G38p = ax_used G + 323 := hB39.2.1
  clear hL39
  refine x_aast C (t := 4) (ci := 8) (n := 5) (i := 4) (r := (RX8, TX8, 4)) (by have h := hT39; show a + 2 < ax_top G38p; omega) (show ax_K G38p (a + 2) = 4 from (hB39.2.2.1 2 (4, 5, [(3, 32), (2, 23), (1, 14), (0, 5)]) (by decide +kernel)).1) (hB39.2.2.1 2 (4, 5, [(3, 32), (2, 23), (1, 14), (0, 5)]) (by decide +kernel)).2.1 (by decide) (by decide) rfl rfl (by have h := hT39; have h2 := hT38; omega) (by rw [hT38]; exact (hB39.2.2.1 41 (16, 0, [(3, 43), (2, 42)]) (by decide +kernel)).1) (by decide) (by decide) (dk ddX9_init 47 rfl) ?_
  have h_ := hB39.ref (j := 2) (k := 4) (b := List.length tX9_32) (x := (4, 5, [(3, 32), (2, 23), (1, 14), (0, 5)])) (by decide +kernel) (by decide +kernel)
  rw [← hB38.1] at h_
  have hB40 : ax_Bt G I L a (ax_used G + 323) tX9_34 iX9_23 (ax_gR G38p (a + 2) 4 (some (ax_top G38))) I38p L38p := h_
  generalize ax_gR G38p (a + 2) 4 (some (ax_top G38)) = G40 at hB40 ⊢
  have hL40 : List.length tX9_34 = 44 := by decide +kernel
  have hT40 : ax_top G40 = a + 44 := by have h := hB40.1; rw [hL40] at h; exact h
  have hU40 : ax_used G40 = ax_used G + 323 := hB40.2.1
  clear hL40
  clear h_ hq
  clear hB38 hT38 hU38 hB39 hT39 hU39
  refine x_aload_n C (dk ddX9_init 48 rfl) rfl ?_
  refine x_getr C flX9_41 rfl (by have h := hT40; show a < ax_top G40; omega) (show ax_K G40 a = 8 + 9 from (hB40.2.2.1 0 (17, 0, [(9, 4), (8, 3), (7, 2), (0, 1)]) (by decide +kernel)).1) (show ax_R G40 a 8 = some (a + 3) from (hB40.2.2.1 0 (17, 0, [(9, 4), (8, 3), (7, 2), (0, 1)]) (by decide +kernel)).2.2 (8, 3) (by decide)) (dk ddX9_init 49 rfl) ?_
  refine x_iload_n C (dk ddX9_init 50 rfl) rfl ?_
  refine x_new C (ci := 8) (q0 := (RX8, TX8, 4)) (tyf := tyX8) rfl cw8 tyX8_ok dfX8 (ax_inT 1 120 (by decide +kernel)) (ax_inT 1 122 (by decide +kernel)) miX8 (by have h := hT40; show ax_top G40 + 1 ≤ ax_top G + 49; omega) (by have h := hU40; show ax_used G40 + 4 ≤ ax_used G + 355; omega) (dk ddX9_init 51 rfl) ?_
  refine x_dup C (dk ddX9_init 52 rfl) rfl ?_
  refine x_callI C (As := []) (k_X8_init l D T o (d - 1) (ax_new G40 16 0 4) (ax_z I38p (ax_top G40) 0) (ax_z L38p (ax_top G40) 0) (ax_top G40) rfl (ax_new_K G40 16 0 4) (ax_new_N G40 16 0 4) (ax_z_eq _ _ _) (ax_z_eq _ _ _) (by omega)) mlX9_47 ⟨by show d - 1 + 1 ≤ d; omega, by show 40 * (d - 1 + 1) ≤ 40 * d; omega⟩ ⟨by have h := hT40; show ax_top G40 + 1 + 2 ≤ ax_top G + 49; omega, by have h := hU40; show ax_used G40 + 4 + 12 ≤ ax_used G + 355; omega⟩ rfl (Nat.le_of_ble_eq_true rfl) (dk ddX9_init 53 rfl) ?_
  rintro v_ G40p I40p L40p ⟨rfl, hp⟩
  have hq := hB40.obj hp
  clear hp
  have hB41 : ax_Bt G I L a (ax_used G + 339) tX9_35 iX9_24 G40p I40p L40p := hq
  have hL41 : List.length tX9_35 = 47 := by decide +kernel
  have hT41 : ax_top G40p = a + 47 := by have h := hB41.1; rw [hL41] at h; exact h
  have hU41 : ax_used G40p = ax_used G + 339 := hB41.2.1
  clear hL41
  refine x_aast C (t := 4) (ci := 8) (n := 5) (i := 4) (r := (RX8, TX8, 4)) (by have h := hT41; show a + 3 < ax_top G40p; omega) (show ax_K G40p (a + 3) = 4 from (hB41.2.2.1 3 (4, 5, [(3, 35), (2, 26), (1, 17), (0, 8)]) (by decide +kernel)).1) (hB41.2.2.1 3 (4, 5, [(3, 35), (2, 26), (1, 17), (0, 8)]) (by decide +kernel)).2.1 (by decide) (by decide) rfl rfl (by have h := hT41; have h2 := hT40; omega) (by rw [hT40]; exact (hB41.2.2.1 44 (16, 0, [(3, 46), (2, 45)]) (by decide +kernel)).1) (by decide) (by decide) (dk ddX9_init 54 rfl) ?_
  have h_ := hB41.ref (j := 3) (k := 4) (b := List.length tX9_34) (x := (4, 5, [(3, 35), (2, 26), (1, 17), (0, 8)])) (by decide +kernel) (by decide +kernel)
  rw [← hB40.1] at h_
  have hB42 : ax_Bt G I L a (ax_used G + 339) tX9_36 iX9_24 (ax_gR G40p (a + 3) 4 (some (ax_top G40))) I40p L40p := h_
  generalize ax_gR G40p (a + 3) 4 (some (ax_top G40)) = G42 at hB42 ⊢
  have hL42 : List.length tX9_36 = 47 := by decide +kernel
  have hT42 : ax_top G42 = a + 47 := by have h := hB42.1; rw [hL42] at h; exact h
  have hU42 : ax_used G42 = ax_used G + 339 := hB42.2.1
  clear hL42
  clear h_ hq
  clear hB40 hT40 hU40 hB41 hT41 hU41
  refine x_aload_n C (dk ddX9_init 55 rfl) rfl ?_
  refine x_getr C flX9_44 rfl (by have h := hT42; show a < ax_top G42; omega) (show ax_K G42 a = 8 + 9 from (hB42.2.2.1 0 (17, 0, [(9, 4), (8, 3), (7, 2), (0, 1)]) (by decide +kernel)).1) (show ax_R G42 a 9 = some (a + 4) from (hB42.2.2.1 0 (17, 0, [(9, 4), (8, 3), (7, 2), (0, 1)]) (by decide +kernel)).2.2 (9, 4) (by decide)) (dk ddX9_init 56 rfl) ?_
  refine x_iload_n C (dk ddX9_init 57 rfl) rfl ?_
  refine x_new C (ci := 8) (q0 := (RX8, TX8, 4)) (tyf := tyX8) rfl cw8 tyX8_ok dfX8 (ax_inT 1 120 (by decide +kernel)) (ax_inT 1 122 (by decide +kernel)) miX8 (by have h := hT42; show ax_top G42 + 1 ≤ ax_top G + 49; omega) (by have h := hU42; show ax_used G42 + 4 ≤ ax_used G + 355; omega) (dk ddX9_init 58 rfl) ?_
  refine x_dup C (dk ddX9_init 59 rfl) rfl ?_
  refine x_callI C (As := []) (k_X8_init l D T o (d - 1) (ax_new G42 16 0 4) (ax_z I40p (ax_top G42) 0) (ax_z L40p (ax_top G42) 0) (ax_top G42) rfl (ax_new_K G42 16 0 4) (ax_new_N G42 16 0 4) (ax_z_eq _ _ _) (ax_z_eq _ _ _) (by omega)) mlX9_47 ⟨by show d - 1 + 1 ≤ d; omega, by show 40 * (d - 1 + 1) ≤ 40 * d; omega⟩ ⟨by have h := hT42; show ax_top G42 + 1 + 2 ≤ ax_top G + 49; omega, by have h := hU42; show ax_used G42 + 4 + 12 ≤ ax_used G + 355; omega⟩ rfl (Nat.le_of_ble_eq_true rfl) (dk ddX9_init 60 rfl) ?_
  rintro v_ G42p I42p L42p ⟨rfl, hp⟩
  have hq := hB42.obj hp
  clear hp
  have hB43 : ax_Bt G I L a (ax_used G + 355) tX9_37 iX9_25 G42p I42p L42p := hq
  have hL43 : List.length tX9_37 = 50 := by decide +kernel
  have hT43 : ax_top G42p = a + 50 := by have h := hB43.1; rw [hL43] at h; exact h
  have hU43 : ax_used G42p = ax_used G + 355 := hB43.2.1
  clear hL43
  refine x_aast C (t := 4) (ci := 8) (n := 5) (i := 4) (r := (RX8, TX8, 4)) (by have h := hT43; show a + 4 < ax_top G42p; omega) (show ax_K G42p (a + 4) = 4 from (hB43.2.2.1 4 (4, 5, [(3, 38), (2, 29), (1, 20), (0, 11)]) (by decide +kernel)).1) (hB43.2.2.1 4 (4, 5, [(3, 38), (2, 29), (1, 20), (0, 11)]) (by decide +kernel)).2.1 (by decide) (by decide) rfl rfl (by have h := hT43; have h2 := hT42; omega) (by rw [hT42]; exact (hB43.2.2.1 47 (16, 0, [(3, 49), (2, 48)]) (by decide +kernel)).1) (by decide) (by decide) (dk ddX9_init 61 rfl) ?_
  have h_ := hB43.ref (j := 4) (k := 4) (b := List.length tX9_36) (x := (4, 5, [(3, 38), (2, 29), (1, 20), (0, 11)])) (by decide +kernel) (by decide +kernel)
  rw [← hB42.1] at h_
  have hB44 : ax_Bt G I L a (ax_used G + 355) tX9_38 iX9_25 (ax_gR G42p (a + 4) 4 (some (ax_top G42))) I42p L42p := h_
  generalize ax_gR G42p (a + 4) 4 (some (ax_top G42)) = G44 at hB44 ⊢
  have hL44 : List.length tX9_38 = 50 := by decide +kernel
  have hT44 : ax_top G44 = a + 50 := by have h := hB44.1; rw [hL44] at h; exact h
  have hU44 : ax_used G44 = ax_used G + 355 := hB44.2.1
  clear hL44
  clear h_ hq
  clear hB42 hT42 hU42 hB43 hT43 hU43
  refine x_iinc C (v := nI 5) (lv' := [(1, .int (nI 5)), (0, .ref a)]) (dk ddX9_init 62 rfl) rfl (by decide) (by decide) rfl ?_
  refine x_goto C (tgt := 68) (dk ddX9_init 63 rfl) (by decide) ?_
  refine x_iload_n C (dk ddX9_init 38 rfl) rfl ?_
  refine x_iconst C (v := nI 4) (dk ddX9_init 39 rfl) (by decide) ?_
  refine x_icmp_gt C (tgt := 118) (dk ddX9_init 40 rfl) (by decide) (fun h_ => ?_) (fun h_ => absurd (by decide) h_)
  clear h_
  exact x_vret C rfl ⟨rfl, hB44⟩ (by have h := hT44; show ax_top G44 = ax_top G + 49; omega) hU44 (dk ddX9_init 64 rfl)
def tX1_0 : ax_Tb := [(9, 0, [])]
def iX1_0 : List (Nat → Int32) := [fun _ => 0]
def tX1_1 : ax_Tb := tX1_0 ++ [(3, 20, [])]
def iX1_1 : List (Nat → Int32) := iX1_0 ++ [fun _ => 0]
def tX1_2 : ax_Tb := ax_addr tX1_1 0 0 (List.length tX1_0)
def iX1_2 : List (Nat → Int32) := List.modify iX1_1 0 (fun f i => if i = 1 then nI 0 else f i)
def iX1_3 : List (Nat → Int32) := List.modify iX1_2 0 (fun f i => if i = 2 then nI 0 else f i)
def tX1_3 : ax_Tb := tX1_2 ++ ax_shf (List.length tX1_2) tX7
def iX1_4 : List (Nat → Int32) := iX1_3 ++ iX7
def tX1_4 : ax_Tb := ax_addr tX1_3 1 0 (List.length tX1_2)
def tX1_5 : ax_Tb := tX1_4 ++ ax_shf (List.length tX1_4) tX7
def iX1_5 : List (Nat → Int32) := iX1_4 ++ iX7
def tX1_6 : ax_Tb := ax_addr tX1_5 1 1 (List.length tX1_4)
def tX1_7 : ax_Tb := tX1_6 ++ ax_shf (List.length tX1_6) tX7
def iX1_6 : List (Nat → Int32) := iX1_5 ++ iX7
def tX1_8 : ax_Tb := ax_addr tX1_7 1 2 (List.length tX1_6)
def tX1_9 : ax_Tb := tX1_8 ++ ax_shf (List.length tX1_8) tX7
def iX1_7 : List (Nat → Int32) := iX1_6 ++ iX7
def tX1_10 : ax_Tb := ax_addr tX1_9 1 3 (List.length tX1_8)
def tX1_11 : ax_Tb := tX1_10 ++ ax_shf (List.length tX1_10) tX7
def iX1_8 : List (Nat → Int32) := iX1_7 ++ iX7
def tX1_12 : ax_Tb := ax_addr tX1_11 1 4 (List.length tX1_10)
def tX1_13 : ax_Tb := tX1_12 ++ ax_shf (List.length tX1_12) tX7
def iX1_9 : List (Nat → Int32) := iX1_8 ++ iX7
def tX1_14 : ax_Tb := ax_addr tX1_13 1 5 (List.length tX1_12)
def tX1_15 : ax_Tb := tX1_14 ++ ax_shf (List.length tX1_14) tX7
def iX1_10 : List (Nat → Int32) := iX1_9 ++ iX7
def tX1_16 : ax_Tb := ax_addr tX1_15 1 6 (List.length tX1_14)
def tX1_17 : ax_Tb := tX1_16 ++ ax_shf (List.length tX1_16) tX7
def iX1_11 : List (Nat → Int32) := iX1_10 ++ iX7
def tX1_18 : ax_Tb := ax_addr tX1_17 1 7 (List.length tX1_16)
def tX1_19 : ax_Tb := tX1_18 ++ ax_shf (List.length tX1_18) tX7
def iX1_12 : List (Nat → Int32) := iX1_11 ++ iX7
def tX1_20 : ax_Tb := ax_addr tX1_19 1 8 (List.length tX1_18)
def tX1_21 : ax_Tb := tX1_20 ++ ax_shf (List.length tX1_20) tX7
def iX1_13 : List (Nat → Int32) := iX1_12 ++ iX7
def tX1_22 : ax_Tb := ax_addr tX1_21 1 9 (List.length tX1_20)
def tX1_23 : ax_Tb := tX1_22 ++ ax_shf (List.length tX1_22) tX7
def iX1_14 : List (Nat → Int32) := iX1_13 ++ iX7
def tX1_24 : ax_Tb := ax_addr tX1_23 1 10 (List.length tX1_22)
def tX1_25 : ax_Tb := tX1_24 ++ ax_shf (List.length tX1_24) tX7
def iX1_15 : List (Nat → Int32) := iX1_14 ++ iX7
def tX1_26 : ax_Tb := ax_addr tX1_25 1 11 (List.length tX1_24)
def tX1_27 : ax_Tb := tX1_26 ++ ax_shf (List.length tX1_26) tX7
def iX1_16 : List (Nat → Int32) := iX1_15 ++ iX7
def tX1_28 : ax_Tb := ax_addr tX1_27 1 12 (List.length tX1_26)
def tX1_29 : ax_Tb := tX1_28 ++ ax_shf (List.length tX1_28) tX7
def iX1_17 : List (Nat → Int32) := iX1_16 ++ iX7
def tX1_30 : ax_Tb := ax_addr tX1_29 1 13 (List.length tX1_28)
def tX1_31 : ax_Tb := tX1_30 ++ ax_shf (List.length tX1_30) tX7
def iX1_18 : List (Nat → Int32) := iX1_17 ++ iX7
def tX1_32 : ax_Tb := ax_addr tX1_31 1 14 (List.length tX1_30)
def tX1_33 : ax_Tb := tX1_32 ++ ax_shf (List.length tX1_32) tX7
def iX1_19 : List (Nat → Int32) := iX1_18 ++ iX7
def tX1_34 : ax_Tb := ax_addr tX1_33 1 15 (List.length tX1_32)
def tX1_35 : ax_Tb := tX1_34 ++ ax_shf (List.length tX1_34) tX7
def iX1_20 : List (Nat → Int32) := iX1_19 ++ iX7
def tX1_36 : ax_Tb := ax_addr tX1_35 1 16 (List.length tX1_34)
def tX1_37 : ax_Tb := tX1_36 ++ ax_shf (List.length tX1_36) tX7
def iX1_21 : List (Nat → Int32) := iX1_20 ++ iX7
def tX1_38 : ax_Tb := ax_addr tX1_37 1 17 (List.length tX1_36)
def tX1_39 : ax_Tb := tX1_38 ++ ax_shf (List.length tX1_38) tX7
def iX1_22 : List (Nat → Int32) := iX1_21 ++ iX7
def tX1_40 : ax_Tb := ax_addr tX1_39 1 18 (List.length tX1_38)
def tX1_41 : ax_Tb := tX1_40 ++ ax_shf (List.length tX1_40) tX7
def iX1_23 : List (Nat → Int32) := iX1_22 ++ iX7
def tX1_42 : ax_Tb := ax_addr tX1_41 1 19 (List.length tX1_40)
abbrev tX1 : ax_Tb := tX1_42
abbrev iX1 : List (Nat → Int32) := iX1_23
set_option maxHeartbeats 4000000 in
set_option maxRecDepth 20000 in
/-- History -/
theorem k_X1_init (l : Launch) (D : va_G) (T : Nat → ClassId) (o d : Nat) (G : ax_G) (I : ax_I) (L : ax_L) (a : Nat) (ht : ax_top G = a + 1) (hK : ax_K G a = 8 + 1) (hN : ax_N G a = 0) (hI : I a = fun _ => 0) (hL : L a = fun _ => 0) (hd : 3 ≤ d) : ax_Con l D T o yX1_init cX1_init 2 none d 281 7340 [.ref a] G I L (fun v G' I' L' => v = none ∧ ax_Bt G I L a (ax_used G + 7340) tX1 iX1 G' I' L') := by
  refine ax_enter (by decide +kernel) (Nat.le_of_ble_eq_true rfl) ?_
  intro p_ e_ s_ m_ args_ below_ meth_ c_ C _
  refine x_lvs (lv' := [(0, .ref a)]) rfl ?_
  have hB0 : ax_Bt G I L a (ax_used G + 0) tX1_0 iX1_0 G I L := ax_Bt.start ht hK hN hI hL
  have hL0 : List.length tX1_0 = 1 := by decide +kernel
  have hT0 : ax_top G = a + 1 := by have h := hB0.1; rw [hL0] at h; exact h
  have hU0 : ax_used G = ax_used G + 0 := hB0.2.1
  clear hL0
  refine x_aload_n C (dk ddX1_init 0 rfl) rfl ?_
  refine x_obj C (ax_inT 1 99 (by decide +kernel)) (ax_inT 1 22 (by decide +kernel)) (ax_inC 1 23 rfl) ⟨by show 1 ≤ d; omega, by show 40 ≤ 40 * d; omega⟩ (Nat.le_of_ble_eq_true rfl) (dk ddX1_init 1 rfl) ?_
  refine x_aload_n C (dk ddX1_init 2 rfl) rfl ?_
  refine x_bipush C (v := nI 20) (dk ddX1_init 3 rfl) (by decide) ?_
  refine x_newq C (t := 3) (n := 20) (cn := RX7) rfl (by decide) (by decide) (ax_inT 1 100 (by decide +kernel)) (ax_inT 1 101 (by decide +kernel)) (by decide) (by have h := hT0; show ax_top G + 1 ≤ ax_top G + 281; omega) (by have h := hU0; show ax_used G + 20 ≤ ax_used G + 7340; omega) (dk ddX1_init 4 rfl) ?_
  have hN_ := hB0.new (k := 3) (n := 20) (sl := 20)
  have hB1 : ax_Bt G I L a (ax_used G + 20) tX1_1 iX1_1 (ax_new G 3 20 20) (ax_z I (ax_top G) 0) (ax_z L (ax_top G) 0) := hN_
  generalize ax_new G 3 20 20 = G1 at hB1 ⊢
  generalize ax_z I (ax_top G) 0 = I1 at hB1 ⊢
  generalize ax_z L (ax_top G) 0 = L1 at hB1 ⊢
  have hL1 : List.length tX1_1 = 2 := by decide +kernel
  have hT1 : ax_top G1 = a + 2 := by have h := hB1.1; rw [hL1] at h; exact h
  have hU1 : ax_used G1 = ax_used G + 20 := hB1.2.1
  clear hL1
  clear hN_
  refine x_putrF C flX1_11 fw1 rfl rfl rfl rfl (by have h := hT1; show a < ax_top G1; omega) (show ax_K G1 a = 8 + 1 from (hB1.2.2.1 0 (9, 0, []) (by decide +kernel)).1) (fun _ => rfl) (fun _ => rfl) (dk ddX1_init 5 rfl) ?_
  have h_ := hB1.ref (j := 0) (k := 0) (b := List.length tX1_0) (x := (9, 0, [])) (by decide +kernel) (by decide +kernel)
  rw [← hB0.1] at h_
  have hB2 : ax_Bt G I L a (ax_used G + 20) tX1_2 iX1_1 (ax_gR G1 a 0 (some (ax_top G))) I1 L1 := h_
  generalize ax_gR G1 a 0 (some (ax_top G)) = G2 at hB2 ⊢
  have hL2 : List.length tX1_2 = 2 := by decide +kernel
  have hT2 : ax_top G2 = a + 2 := by have h := hB2.1; rw [hL2] at h; exact h
  have hU2 : ax_used G2 = ax_used G + 20 := hB2.2.1
  clear hL2
  clear h_
  clear hB0 hT0 hU0 hB1 hT1 hU1
  refine x_aload_n C (dk ddX1_init 6 rfl) rfl ?_
  refine x_iconst C (v := nI 0) (dk ddX1_init 7 rfl) (by decide) ?_
  refine x_puti C flX1_17 fw1 rfl rfl (by have h := hT2; show a < ax_top G2; omega) (show ax_K G2 a = 8 + 1 from (hB2.2.2.1 0 (9, 0, [(0, 1)]) (by decide +kernel)).1) rfl rfl (dk ddX1_init 8 rfl) ?_
  have hB3 : ax_Bt G I L a (ax_used G + 20) tX1_2 iX1_2 G2 (ax_u I1 a 1 (nI 0)) L1 := hB2.int (j := 0) (k := 1) (v := (nI 0)) (by decide +kernel)
  generalize ax_u I1 a 1 (nI 0) = I3 at hB3 ⊢
  have hL3 : List.length tX1_2 = 2 := by decide +kernel
  have hT3 : ax_top G2 = a + 2 := by have h := hB3.1; rw [hL3] at h; exact h
  have hU3 : ax_used G2 = ax_used G + 20 := hB3.2.1
  clear hL3
  clear hB2 hT2 hU2
  refine x_aload_n C (dk ddX1_init 9 rfl) rfl ?_
  refine x_iconst C (v := nI 0) (dk ddX1_init 10 rfl) (by decide) ?_
  refine x_puti C flX1_21 fw1 rfl rfl (by have h := hT3; show a < ax_top G2; omega) (show ax_K G2 a = 8 + 1 from (hB3.2.2.1 0 (9, 0, [(0, 1)]) (by decide +kernel)).1) rfl rfl (dk ddX1_init 11 rfl) ?_
  have hB4 : ax_Bt G I L a (ax_used G + 20) tX1_2 iX1_3 G2 (ax_u I3 a 2 (nI 0)) L1 := hB3.int (j := 0) (k := 2) (v := (nI 0)) (by decide +kernel)
  generalize ax_u I3 a 2 (nI 0) = I4 at hB4 ⊢
  have hL4 : List.length tX1_2 = 2 := by decide +kernel
  have hT4 : ax_top G2 = a + 2 := by have h := hB4.1; rw [hL4] at h; exact h
  have hU4 : ax_used G2 = ax_used G + 20 := hB4.2.1
  clear hL4
  clear hB3 hT3 hU3
  refine x_iconst C (v := nI 0) (dk ddX1_init 12 rfl) (by decide) ?_
  refine x_istore_n C (lv' := [(1, .int (nI 0)), (0, .ref a)]) (dk ddX1_init 13 rfl) (by decide) rfl ?_
  refine x_iload_n C (dk ddX1_init 14 rfl) rfl ?_
  refine x_bipush C (v := nI 20) (dk ddX1_init 15 rfl) (by decide) ?_
  refine x_icmp_ge C (tgt := 50) (dk ddX1_init 16 rfl) (by decide) (fun h_ => absurd h_ (by decide)) (fun h_ => ?_)
  clear h_
  refine x_aload_n C (dk ddX1_init 17 rfl) rfl ?_
  refine x_getr C flX1_11 rfl (by have h := hT4; show a < ax_top G2; omega) (show ax_K G2 a = 8 + 1 from (hB4.2.2.1 0 (9, 0, [(0, 1)]) (by decide +kernel)).1) (show ax_R G2 a 0 = some (a + 1) from (hB4.2.2.1 0 (9, 0, [(0, 1)]) (by decide +kernel)).2.2 (0, 1) (by decide)) (dk ddX1_init 18 rfl) ?_
  refine x_iload_n C (dk ddX1_init 19 rfl) rfl ?_
  refine x_new C (ci := 7) (q0 := (RX7, TX7, 14)) (tyf := tyX7) rfl cw7 tyX7_ok dfX7 (ax_inT 1 100 (by decide +kernel)) (ax_inT 1 25 (by decide +kernel)) miX7 (by have h := hT4; show ax_top G2 + 1 ≤ ax_top G + 281; omega) (by have h := hU4; show ax_used G2 + 14 ≤ ax_used G + 7340; omega) (dk ddX1_init 20 rfl) ?_
  refine x_dup C (dk ddX1_init 21 rfl) rfl ?_
  refine x_callI C (As := []) (k_X7_init l D T o (d - 1) (ax_new G2 15 0 14) (ax_z I4 (ax_top G2) 0) (ax_z L1 (ax_top G2) 0) (ax_top G2) rfl (ax_new_K G2 15 0 14) (ax_new_N G2 15 0 14) (ax_z_eq _ _ _) (ax_z_eq _ _ _) (by omega)) mlX1_24 ⟨by show d - 1 + 1 ≤ d; omega, by show 40 * (d - 1 + 1) ≤ 40 * d; omega⟩ ⟨by have h := hT4; show ax_top G2 + 1 + 13 ≤ ax_top G + 281; omega, by have h := hU4; show ax_used G2 + 14 + 352 ≤ ax_used G + 7340; omega⟩ rfl (Nat.le_of_ble_eq_true rfl) (dk ddX1_init 22 rfl) ?_
  rintro v_ G4p I4p L4p ⟨rfl, hp⟩
  have hq := hB4.obj hp
  clear hp
  have hB5 : ax_Bt G I L a (ax_used G + 386) tX1_3 iX1_4 G4p I4p L4p := hq
  have hL5 : List.length tX1_3 = 16 := by decide +kernel
  have hT5 : ax_top G4p = a + 16 := by have h := hB5.1; rw [hL5] at h; exact h
  have hU5 : ax_used G4p = ax_used G + 386 := hB5.2.1
  clear hL5
  refine x_aast C (t := 3) (ci := 7) (n := 20) (i := 0) (r := (RX7, TX7, 14)) (by have h := hT5; show a + 1 < ax_top G4p; omega) (show ax_K G4p (a + 1) = 3 from (hB5.2.2.1 1 (3, 20, []) (by decide +kernel)).1) (hB5.2.2.1 1 (3, 20, []) (by decide +kernel)).2.1 (by decide) (by decide) rfl rfl (by have h := hT5; have h2 := hT4; omega) (by rw [hT4]; exact (hB5.2.2.1 2 (15, 0, [(13, 15), (12, 14), (11, 13), (10, 12), (9, 11), (8, 10), (7, 9), (5, 8), (4, 7), (3, 6), (2, 5), (1, 4), (0, 3)]) (by decide +kernel)).1) (by decide) (by decide) (dk ddX1_init 23 rfl) ?_
  have h_ := hB5.ref (j := 1) (k := 0) (b := List.length tX1_2) (x := (3, 20, [])) (by decide +kernel) (by decide +kernel)
  rw [← hB4.1] at h_
  have hB6 : ax_Bt G I L a (ax_used G + 386) tX1_4 iX1_4 (ax_gR G4p (a + 1) 0 (some (ax_top G2))) I4p L4p := h_
  generalize ax_gR G4p (a + 1) 0 (some (ax_top G2)) = G6 at hB6 ⊢
  have hL6 : List.length tX1_4 = 16 := by decide +kernel
  have hT6 : ax_top G6 = a + 16 := by have h := hB6.1; rw [hL6] at h; exact h
  have hU6 : ax_used G6 = ax_used G + 386 := hB6.2.1
  clear hL6
  clear h_ hq
  clear hB4 hT4 hU4 hB5 hT5 hU5
  refine x_iinc C (v := nI 1) (lv' := [(1, .int (nI 1)), (0, .ref a)]) (dk ddX1_init 24 rfl) rfl (by decide) (by decide) rfl ?_
  refine x_goto C (tgt := 25) (dk ddX1_init 25 rfl) (by decide) ?_
  refine x_iload_n C (dk ddX1_init 14 rfl) rfl ?_
  refine x_bipush C (v := nI 20) (dk ddX1_init 15 rfl) (by decide) ?_
  refine x_icmp_ge C (tgt := 50) (dk ddX1_init 16 rfl) (by decide) (fun h_ => absurd h_ (by decide)) (fun h_ => ?_)
  clear h_
  refine x_aload_n C (dk ddX1_init 17 rfl) rfl ?_
  refine x_getr C flX1_11 rfl (by have h := hT6; show a < ax_top G6; omega) (show ax_K G6 a = 8 + 1 from (hB6.2.2.1 0 (9, 0, [(0, 1)]) (by decide +kernel)).1) (show ax_R G6 a 0 = some (a + 1) from (hB6.2.2.1 0 (9, 0, [(0, 1)]) (by decide +kernel)).2.2 (0, 1) (by decide)) (dk ddX1_init 18 rfl) ?_
  refine x_iload_n C (dk ddX1_init 19 rfl) rfl ?_
  refine x_new C (ci := 7) (q0 := (RX7, TX7, 14)) (tyf := tyX7) rfl cw7 tyX7_ok dfX7 (ax_inT 1 100 (by decide +kernel)) (ax_inT 1 25 (by decide +kernel)) miX7 (by have h := hT6; show ax_top G6 + 1 ≤ ax_top G + 281; omega) (by have h := hU6; show ax_used G6 + 14 ≤ ax_used G + 7340; omega) (dk ddX1_init 20 rfl) ?_
  refine x_dup C (dk ddX1_init 21 rfl) rfl ?_
  refine x_callI C (As := []) (k_X7_init l D T o (d - 1) (ax_new G6 15 0 14) (ax_z I4p (ax_top G6) 0) (ax_z L4p (ax_top G6) 0) (ax_top G6) rfl (ax_new_K G6 15 0 14) (ax_new_N G6 15 0 14) (ax_z_eq _ _ _) (ax_z_eq _ _ _) (by omega)) mlX1_24 ⟨by show d - 1 + 1 ≤ d; omega, by show 40 * (d - 1 + 1) ≤ 40 * d; omega⟩ ⟨by have h := hT6; show ax_top G6 + 1 + 13 ≤ ax_top G + 281; omega, by have h := hU6; show ax_used G6 + 14 + 352 ≤ ax_used G + 7340; omega⟩ rfl (Nat.le_of_ble_eq_true rfl) (dk ddX1_init 22 rfl) ?_
  rintro v_ G6p I6p L6p ⟨rfl, hp⟩
  have hq := hB6.obj hp
  clear hp
  have hB7 : ax_Bt G I L a (ax_used G + 752) tX1_5 iX1_5 G6p I6p L6p := hq
  have hL7 : List.length tX1_5 = 30 := by decide +kernel
  have hT7 : ax_top G6p = a + 30 := by have h := hB7.1; rw [hL7] at h; exact h
  have hU7 : ax_used G6p = ax_used G + 752 := hB7.2.1
  clear hL7
  refine x_aast C (t := 3) (ci := 7) (n := 20) (i := 1) (r := (RX7, TX7, 14)) (by have h := hT7; show a + 1 < ax_top G6p; omega) (show ax_K G6p (a + 1) = 3 from (hB7.2.2.1 1 (3, 20, [(0, 2)]) (by decide +kernel)).1) (hB7.2.2.1 1 (3, 20, [(0, 2)]) (by decide +kernel)).2.1 (by decide) (by decide) rfl rfl (by have h := hT7; have h2 := hT6; omega) (by rw [hT6]; exact (hB7.2.2.1 16 (15, 0, [(13, 29), (12, 28), (11, 27), (10, 26), (9, 25), (8, 24), (7, 23), (5, 22), (4, 21), (3, 20), (2, 19), (1, 18), (0, 17)]) (by decide +kernel)).1) (by decide) (by decide) (dk ddX1_init 23 rfl) ?_
  have h_ := hB7.ref (j := 1) (k := 1) (b := List.length tX1_4) (x := (3, 20, [(0, 2)])) (by decide +kernel) (by decide +kernel)
  rw [← hB6.1] at h_
  have hB8 : ax_Bt G I L a (ax_used G + 752) tX1_6 iX1_5 (ax_gR G6p (a + 1) 1 (some (ax_top G6))) I6p L6p := h_
  generalize ax_gR G6p (a + 1) 1 (some (ax_top G6)) = G8 at hB8 ⊢
  have hL8 : List.length tX1_6 = 30 := by decide +kernel
  have hT8 : ax_top G8 = a + 30 := by have h := hB8.1; rw [hL8] at h; exact h
  have hU8 : ax_used G8 = ax_used G + 752 := hB8.2.1
  clear hL8
  clear h_ hq
  clear hB6 hT6 hU6 hB7 hT7 hU7
  refine x_iinc C (v := nI 2) (lv' := [(1, .int (nI 2)), (0, .ref a)]) (dk ddX1_init 24 rfl) rfl (by decide) (by decide) rfl ?_
  refine x_goto C (tgt := 25) (dk ddX1_init 25 rfl) (by decide) ?_
  refine x_iload_n C (dk ddX1_init 14 rfl) rfl ?_
  refine x_bipush C (v := nI 20) (dk ddX1_init 15 rfl) (by decide) ?_
  refine x_icmp_ge C (tgt := 50) (dk ddX1_init 16 rfl) (by decide) (fun h_ => absurd h_ (by decide)) (fun h_ => ?_)
  clear h_
  refine x_aload_n C (dk ddX1_init 17 rfl) rfl ?_
  refine x_getr C flX1_11 rfl (by have h := hT8; show a < ax_top G8; omega) (show ax_K G8 a = 8 + 1 from (hB8.2.2.1 0 (9, 0, [(0, 1)]) (by decide +kernel)).1) (show ax_R G8 a 0 = some (a + 1) from (hB8.2.2.1 0 (9, 0, [(0, 1)]) (by decide +kernel)).2.2 (0, 1) (by decide)) (dk ddX1_init 18 rfl) ?_
  refine x_iload_n C (dk ddX1_init 19 rfl) rfl ?_
  refine x_new C (ci := 7) (q0 := (RX7, TX7, 14)) (tyf := tyX7) rfl cw7 tyX7_ok dfX7 (ax_inT 1 100 (by decide +kernel)) (ax_inT 1 25 (by decide +kernel)) miX7 (by have h := hT8; show ax_top G8 + 1 ≤ ax_top G + 281; omega) (by have h := hU8; show ax_used G8 + 14 ≤ ax_used G + 7340; omega) (dk ddX1_init 20 rfl) ?_
  refine x_dup C (dk ddX1_init 21 rfl) rfl ?_
  refine x_callI C (As := []) (k_X7_init l D T o (d - 1) (ax_new G8 15 0 14) (ax_z I6p (ax_top G8) 0) (ax_z L6p (ax_top G8) 0) (ax_top G8) rfl (ax_new_K G8 15 0 14) (ax_new_N G8 15 0 14) (ax_z_eq _ _ _) (ax_z_eq _ _ _) (by omega)) mlX1_24 ⟨by show d - 1 + 1 ≤ d; omega, by show 40 * (d - 1 + 1) ≤ 40 * d; omega⟩ ⟨by have h := hT8; show ax_top G8 + 1 + 13 ≤ ax_top G + 281; omega, by have h := hU8; show ax_used G8 + 14 + 352 ≤ ax_used G + 7340; omega⟩ rfl (Nat.le_of_ble_eq_true rfl) (dk ddX1_init 22 rfl) ?_
  rintro v_ G8p I8p L8p ⟨rfl, hp⟩
  have hq := hB8.obj hp
  clear hp
  have hB9 : ax_Bt G I L a (ax_used G + 1118) tX1_7 iX1_6 G8p I8p L8p := hq
  have hL9 : List.length tX1_7 = 44 := by decide +kernel
  have hT9 : ax_top G8p = a + 44 := by have h := hB9.1; rw [hL9] at h; exact h
  have hU9 : ax_used G8p = ax_used G + 1118 := hB9.2.1
  clear hL9
  refine x_aast C (t := 3) (ci := 7) (n := 20) (i := 2) (r := (RX7, TX7, 14)) (by have h := hT9; show a + 1 < ax_top G8p; omega) (show ax_K G8p (a + 1) = 3 from (hB9.2.2.1 1 (3, 20, [(1, 16), (0, 2)]) (by decide +kernel)).1) (hB9.2.2.1 1 (3, 20, [(1, 16), (0, 2)]) (by decide +kernel)).2.1 (by decide) (by decide) rfl rfl (by have h := hT9; have h2 := hT8; omega) (by rw [hT8]; exact (hB9.2.2.1 30 (15, 0, [(13, 43), (12, 42), (11, 41), (10, 40), (9, 39), (8, 38), (7, 37), (5, 36), (4, 35), (3, 34), (2, 33), (1, 32), (0, 31)]) (by decide +kernel)).1) (by decide) (by decide) (dk ddX1_init 23 rfl) ?_
  have h_ := hB9.ref (j := 1) (k := 2) (b := List.length tX1_6) (x := (3, 20, [(1, 16), (0, 2)])) (by decide +kernel) (by decide +kernel)
  rw [← hB8.1] at h_
  have hB10 : ax_Bt G I L a (ax_used G + 1118) tX1_8 iX1_6 (ax_gR G8p (a + 1) 2 (some (ax_top G8))) I8p L8p := h_
  generalize ax_gR G8p (a + 1) 2 (some (ax_top G8)) = G10 at hB10 ⊢
  have hL10 : List.length tX1_8 = 44 := by decide +kernel
  have hT10 : ax_top G10 = a + 44 := by have h := hB10.1; rw [hL10] at h; exact h
  have hU10 : ax_used G10 = ax_used G + 1118 := hB10.2.1
  clear hL10
  clear h_ hq
  clear hB8 hT8 hU8 hB9 hT9 hU9
  refine x_iinc C (v := nI 3) (lv' := [(1, .int (nI 3)), (0, .ref a)]) (dk ddX1_init 24 rfl) rfl (by decide) (by decide) rfl ?_
  refine x_goto C (tgt := 25) (dk ddX1_init 25 rfl) (by decide) ?_
  refine x_iload_n C (dk ddX1_init 14 rfl) rfl ?_
  refine x_bipush C (v := nI 20) (dk ddX1_init 15 rfl) (by decide) ?_
  refine x_icmp_ge C (tgt := 50) (dk ddX1_init 16 rfl) (by decide) (fun h_ => absurd h_ (by decide)) (fun h_ => ?_)
  clear h_
  refine x_aload_n C (dk ddX1_init 17 rfl) rfl ?_
  refine x_getr C flX1_11 rfl (by have h := hT10; show a < ax_top G10; omega) (show ax_K G10 a = 8 + 1 from (hB10.2.2.1 0 (9, 0, [(0, 1)]) (by decide +kernel)).1) (show ax_R G10 a 0 = some (a + 1) from (hB10.2.2.1 0 (9, 0, [(0, 1)]) (by decide +kernel)).2.2 (0, 1) (by decide)) (dk ddX1_init 18 rfl) ?_
  refine x_iload_n C (dk ddX1_init 19 rfl) rfl ?_
  refine x_new C (ci := 7) (q0 := (RX7, TX7, 14)) (tyf := tyX7) rfl cw7 tyX7_ok dfX7 (ax_inT 1 100 (by decide +kernel)) (ax_inT 1 25 (by decide +kernel)) miX7 (by have h := hT10; show ax_top G10 + 1 ≤ ax_top G + 281; omega) (by have h := hU10; show ax_used G10 + 14 ≤ ax_used G + 7340; omega) (dk ddX1_init 20 rfl) ?_
  refine x_dup C (dk ddX1_init 21 rfl) rfl ?_
  refine x_callI C (As := []) (k_X7_init l D T o (d - 1) (ax_new G10 15 0 14) (ax_z I8p (ax_top G10) 0) (ax_z L8p (ax_top G10) 0) (ax_top G10) rfl (ax_new_K G10 15 0 14) (ax_new_N G10 15 0 14) (ax_z_eq _ _ _) (ax_z_eq _ _ _) (by omega)) mlX1_24 ⟨by show d - 1 + 1 ≤ d; omega, by show 40 * (d - 1 + 1) ≤ 40 * d; omega⟩ ⟨by have h := hT10; show ax_top G10 + 1 + 13 ≤ ax_top G + 281; omega, by have h := hU10; show ax_used G10 + 14 + 352 ≤ ax_used G + 7340; omega⟩ rfl (Nat.le_of_ble_eq_true rfl) (dk ddX1_init 22 rfl) ?_
  rintro v_ G10p I10p L10p ⟨rfl, hp⟩
  have hq := hB10.obj hp
  clear hp
  have hB11 : ax_Bt G I L a (ax_used G + 1484) tX1_9 iX1_7 G10p I10p L10p := hq
  have hL11 : List.length tX1_9 = 58 := by decide +kernel
  have hT11 : ax_top G10p = a + 58 := by have h := hB11.1; rw [hL11] at h; exact h
  have hU11 : ax_used G10p = ax_used G + 1484 := hB11.2.1
  clear hL11
  refine x_aast C (t := 3) (ci := 7) (n := 20) (i := 3) (r := (RX7, TX7, 14)) (by have h := hT11; show a + 1 < ax_top G10p; omega) (show ax_K G10p (a + 1) = 3 from (hB11.2.2.1 1 (3, 20, [(2, 30), (1, 16), (0, 2)]) (by decide +kernel)).1) (hB11.2.2.1 1 (3, 20, [(2, 30), (1, 16), (0, 2)]) (by decide +kernel)).2.1 (by decide) (by decide) rfl rfl (by have h := hT11; have h2 := hT10; omega) (by rw [hT10]; exact (hB11.2.2.1 44 (15, 0, [(13, 57), (12, 56), (11, 55), (10, 54), (9, 53), (8, 52), (7, 51), (5, 50), (4, 49), (3, 48), (2, 47), (1, 46), (0, 45)]) (by decide +kernel)).1) (by decide) (by decide) (dk ddX1_init 23 rfl) ?_
  have h_ := hB11.ref (j := 1) (k := 3) (b := List.length tX1_8) (x := (3, 20, [(2, 30), (1, 16), (0, 2)])) (by decide +kernel) (by decide +kernel)
  rw [← hB10.1] at h_
  have hB12 : ax_Bt G I L a (ax_used G + 1484) tX1_10 iX1_7 (ax_gR G10p (a + 1) 3 (some (ax_top G10))) I10p L10p := h_
  generalize ax_gR G10p (a + 1) 3 (some (ax_top G10)) = G12 at hB12 ⊢
  have hL12 : List.length tX1_10 = 58 := by decide +kernel
  have hT12 : ax_top G12 = a + 58 := by have h := hB12.1; rw [hL12] at h; exact h
  have hU12 : ax_used G12 = ax_used G + 1484 := hB12.2.1
  clear hL12
  clear h_ hq
  clear hB10 hT10 hU10 hB11 hT11 hU11
  refine x_iinc C (v := nI 4) (lv' := [(1, .int (nI 4)), (0, .ref a)]) (dk ddX1_init 24 rfl) rfl (by decide) (by decide) rfl ?_
  refine x_goto C (tgt := 25) (dk ddX1_init 25 rfl) (by decide) ?_
  refine x_iload_n C (dk ddX1_init 14 rfl) rfl ?_
  refine x_bipush C (v := nI 20) (dk ddX1_init 15 rfl) (by decide) ?_
  refine x_icmp_ge C (tgt := 50) (dk ddX1_init 16 rfl) (by decide) (fun h_ => absurd h_ (by decide)) (fun h_ => ?_)
  clear h_
  refine x_aload_n C (dk ddX1_init 17 rfl) rfl ?_
  refine x_getr C flX1_11 rfl (by have h := hT12; show a < ax_top G12; omega) (show ax_K G12 a = 8 + 1 from (hB12.2.2.1 0 (9, 0, [(0, 1)]) (by decide +kernel)).1) (show ax_R G12 a 0 = some (a + 1) from (hB12.2.2.1 0 (9, 0, [(0, 1)]) (by decide +kernel)).2.2 (0, 1) (by decide)) (dk ddX1_init 18 rfl) ?_
  refine x_iload_n C (dk ddX1_init 19 rfl) rfl ?_
  refine x_new C (ci := 7) (q0 := (RX7, TX7, 14)) (tyf := tyX7) rfl cw7 tyX7_ok dfX7 (ax_inT 1 100 (by decide +kernel)) (ax_inT 1 25 (by decide +kernel)) miX7 (by have h := hT12; show ax_top G12 + 1 ≤ ax_top G + 281; omega) (by have h := hU12; show ax_used G12 + 14 ≤ ax_used G + 7340; omega) (dk ddX1_init 20 rfl) ?_
  refine x_dup C (dk ddX1_init 21 rfl) rfl ?_
  refine x_callI C (As := []) (k_X7_init l D T o (d - 1) (ax_new G12 15 0 14) (ax_z I10p (ax_top G12) 0) (ax_z L10p (ax_top G12) 0) (ax_top G12) rfl (ax_new_K G12 15 0 14) (ax_new_N G12 15 0 14) (ax_z_eq _ _ _) (ax_z_eq _ _ _) (by omega)) mlX1_24 ⟨by show d - 1 + 1 ≤ d; omega, by show 40 * (d - 1 + 1) ≤ 40 * d; omega⟩ ⟨by have h := hT12; show ax_top G12 + 1 + 13 ≤ ax_top G + 281; omega, by have h := hU12; show ax_used G12 + 14 + 352 ≤ ax_used G + 7340; omega⟩ rfl (Nat.le_of_ble_eq_true rfl) (dk ddX1_init 22 rfl) ?_
  rintro v_ G12p I12p L12p ⟨rfl, hp⟩
  have hq := hB12.obj hp
  clear hp
  have hB13 : ax_Bt G I L a (ax_used G + 1850) tX1_11 iX1_8 G12p I12p L12p := hq
  have hL13 : List.length tX1_11 = 72 := by decide +kernel
  have hT13 : ax_top G12p = a + 72 := by have h := hB13.1; rw [hL13] at h; exact h
  have hU13 : ax_used G12p = ax_used G + 1850 := hB13.2.1
  clear hL13
  refine x_aast C (t := 3) (ci := 7) (n := 20) (i := 4) (r := (RX7, TX7, 14)) (by have h := hT13; show a + 1 < ax_top G12p; omega) (show ax_K G12p (a + 1) = 3 from (hB13.2.2.1 1 (3, 20, [(3, 44), (2, 30), (1, 16), (0, 2)]) (by decide +kernel)).1) (hB13.2.2.1 1 (3, 20, [(3, 44), (2, 30), (1, 16), (0, 2)]) (by decide +kernel)).2.1 (by decide) (by decide) rfl rfl (by have h := hT13; have h2 := hT12; omega) (by rw [hT12]; exact (hB13.2.2.1 58 (15, 0, [(13, 71), (12, 70), (11, 69), (10, 68), (9, 67), (8, 66), (7, 65), (5, 64), (4, 63), (3, 62), (2, 61), (1, 60), (0, 59)]) (by decide +kernel)).1) (by decide) (by decide) (dk ddX1_init 23 rfl) ?_
  have h_ := hB13.ref (j := 1) (k := 4) (b := List.length tX1_10) (x := (3, 20, [(3, 44), (2, 30), (1, 16), (0, 2)])) (by decide +kernel) (by decide +kernel)
  rw [← hB12.1] at h_
  have hB14 : ax_Bt G I L a (ax_used G + 1850) tX1_12 iX1_8 (ax_gR G12p (a + 1) 4 (some (ax_top G12))) I12p L12p := h_
  generalize ax_gR G12p (a + 1) 4 (some (ax_top G12)) = G14 at hB14 ⊢
  have hL14 : List.length tX1_12 = 72 := by decide +kernel
  have hT14 : ax_top G14 = a + 72 := by have h := hB14.1; rw [hL14] at h; exact h
  have hU14 : ax_used G14 = ax_used G + 1850 := hB14.2.1
  clear hL14
  clear h_ hq
  clear hB12 hT12 hU12 hB13 hT13 hU13
  refine x_iinc C (v := nI 5) (lv' := [(1, .int (nI 5)), (0, .ref a)]) (dk ddX1_init 24 rfl) rfl (by decide) (by decide) rfl ?_
  refine x_goto C (tgt := 25) (dk ddX1_init 25 rfl) (by decide) ?_
  refine x_iload_n C (dk ddX1_init 14 rfl) rfl ?_
  refine x_bipush C (v := nI 20) (dk ddX1_init 15 rfl) (by decide) ?_
  refine x_icmp_ge C (tgt := 50) (dk ddX1_init 16 rfl) (by decide) (fun h_ => absurd h_ (by decide)) (fun h_ => ?_)
  clear h_
  refine x_aload_n C (dk ddX1_init 17 rfl) rfl ?_
  refine x_getr C flX1_11 rfl (by have h := hT14; show a < ax_top G14; omega) (show ax_K G14 a = 8 + 1 from (hB14.2.2.1 0 (9, 0, [(0, 1)]) (by decide +kernel)).1) (show ax_R G14 a 0 = some (a + 1) from (hB14.2.2.1 0 (9, 0, [(0, 1)]) (by decide +kernel)).2.2 (0, 1) (by decide)) (dk ddX1_init 18 rfl) ?_
  refine x_iload_n C (dk ddX1_init 19 rfl) rfl ?_
  refine x_new C (ci := 7) (q0 := (RX7, TX7, 14)) (tyf := tyX7) rfl cw7 tyX7_ok dfX7 (ax_inT 1 100 (by decide +kernel)) (ax_inT 1 25 (by decide +kernel)) miX7 (by have h := hT14; show ax_top G14 + 1 ≤ ax_top G + 281; omega) (by have h := hU14; show ax_used G14 + 14 ≤ ax_used G + 7340; omega) (dk ddX1_init 20 rfl) ?_
  refine x_dup C (dk ddX1_init 21 rfl) rfl ?_
  refine x_callI C (As := []) (k_X7_init l D T o (d - 1) (ax_new G14 15 0 14) (ax_z I12p (ax_top G14) 0) (ax_z L12p (ax_top G14) 0) (ax_top G14) rfl (ax_new_K G14 15 0 14) (ax_new_N G14 15 0 14) (ax_z_eq _ _ _) (ax_z_eq _ _ _) (by omega)) mlX1_24 ⟨by show d - 1 + 1 ≤ d; omega, by show 40 * (d - 1 + 1) ≤ 40 * d; omega⟩ ⟨by have h := hT14; show ax_top G14 + 1 + 13 ≤ ax_top G + 281; omega, by have h := hU14; show ax_used G14 + 14 + 352 ≤ ax_used G + 7340; omega⟩ rfl (Nat.le_of_ble_eq_true rfl) (dk ddX1_init 22 rfl) ?_
  rintro v_ G14p I14p L14p ⟨rfl, hp⟩
  have hq := hB14.obj hp
  clear hp
  have hB15 : ax_Bt G I L a (ax_used G + 2216) tX1_13 iX1_9 G14p I14p L14p := hq
  have hL15 : List.length tX1_13 = 86 := by decide +kernel
  have hT15 : ax_top G14p = a + 86 := by have h := hB15.1; rw [hL15] at h; exact h
  have hU15 : ax_used G14p = ax_used G + 2216 := hB15.2.1
  clear hL15
  refine x_aast C (t := 3) (ci := 7) (n := 20) (i := 5) (r := (RX7, TX7, 14)) (by have h := hT15; show a + 1 < ax_top G14p; omega) (show ax_K G14p (a + 1) = 3 from (hB15.2.2.1 1 (3, 20, [(4, 58), (3, 44), (2, 30), (1, 16), (0, 2)]) (by decide +kernel)).1) (hB15.2.2.1 1 (3, 20, [(4, 58), (3, 44), (2, 30), (1, 16), (0, 2)]) (by decide +kernel)).2.1 (by decide) (by decide) rfl rfl (by have h := hT15; have h2 := hT14; omega) (by rw [hT14]; exact (hB15.2.2.1 72 (15, 0, [(13, 85), (12, 84), (11, 83), (10, 82), (9, 81), (8, 80), (7, 79), (5, 78), (4, 77), (3, 76), (2, 75), (1, 74), (0, 73)]) (by decide +kernel)).1) (by decide) (by decide) (dk ddX1_init 23 rfl) ?_
  have h_ := hB15.ref (j := 1) (k := 5) (b := List.length tX1_12) (x := (3, 20, [(4, 58), (3, 44), (2, 30), (1, 16), (0, 2)])) (by decide +kernel) (by decide +kernel)
  rw [← hB14.1] at h_
  have hB16 : ax_Bt G I L a (ax_used G + 2216) tX1_14 iX1_9 (ax_gR G14p (a + 1) 5 (some (ax_top G14))) I14p L14p := h_
  generalize ax_gR G14p (a + 1) 5 (some (ax_top G14)) = G16 at hB16 ⊢
  have hL16 : List.length tX1_14 = 86 := by decide +kernel
  have hT16 : ax_top G16 = a + 86 := by have h := hB16.1; rw [hL16] at h; exact h
  have hU16 : ax_used G16 = ax_used G + 2216 := hB16.2.1
  clear hL16
  clear h_ hq
  clear hB14 hT14 hU14 hB15 hT15 hU15
  refine x_iinc C (v := nI 6) (lv' := [(1, .int (nI 6)), (0, .ref a)]) (dk ddX1_init 24 rfl) rfl (by decide) (by decide) rfl ?_
  refine x_goto C (tgt := 25) (dk ddX1_init 25 rfl) (by decide) ?_
  refine x_iload_n C (dk ddX1_init 14 rfl) rfl ?_
  refine x_bipush C (v := nI 20) (dk ddX1_init 15 rfl) (by decide) ?_
  refine x_icmp_ge C (tgt := 50) (dk ddX1_init 16 rfl) (by decide) (fun h_ => absurd h_ (by decide)) (fun h_ => ?_)
  clear h_
  refine x_aload_n C (dk ddX1_init 17 rfl) rfl ?_
  refine x_getr C flX1_11 rfl (by have h := hT16; show a < ax_top G16; omega) (show ax_K G16 a = 8 + 1 from (hB16.2.2.1 0 (9, 0, [(0, 1)]) (by decide +kernel)).1) (show ax_R G16 a 0 = some (a + 1) from (hB16.2.2.1 0 (9, 0, [(0, 1)]) (by decide +kernel)).2.2 (0, 1) (by decide)) (dk ddX1_init 18 rfl) ?_
  refine x_iload_n C (dk ddX1_init 19 rfl) rfl ?_
  refine x_new C (ci := 7) (q0 := (RX7, TX7, 14)) (tyf := tyX7) rfl cw7 tyX7_ok dfX7 (ax_inT 1 100 (by decide +kernel)) (ax_inT 1 25 (by decide +kernel)) miX7 (by have h := hT16; show ax_top G16 + 1 ≤ ax_top G + 281; omega) (by have h := hU16; show ax_used G16 + 14 ≤ ax_used G + 7340; omega) (dk ddX1_init 20 rfl) ?_
  refine x_dup C (dk ddX1_init 21 rfl) rfl ?_
  refine x_callI C (As := []) (k_X7_init l D T o (d - 1) (ax_new G16 15 0 14) (ax_z I14p (ax_top G16) 0) (ax_z L14p (ax_top G16) 0) (ax_top G16) rfl (ax_new_K G16 15 0 14) (ax_new_N G16 15 0 14) (ax_z_eq _ _ _) (ax_z_eq _ _ _) (by omega)) mlX1_24 ⟨by show d - 1 + 1 ≤ d; omega, by show 40 * (d - 1 + 1) ≤ 40 * d; omega⟩ ⟨by have h := hT16; show ax_top G16 + 1 + 13 ≤ ax_top G + 281; omega, by have h := hU16; show ax_used G16 + 14 + 352 ≤ ax_used G + 7340; omega⟩ rfl (Nat.le_of_ble_eq_true rfl) (dk ddX1_init 22 rfl) ?_
  rintro v_ G16p I16p L16p ⟨rfl, hp⟩
  have hq := hB16.obj hp
  clear hp
  have hB17 : ax_Bt G I L a (ax_used G + 2582) tX1_15 iX1_10 G16p I16p L16p := hq
  have hL17 : List.length tX1_15 = 100 := by decide +kernel
  have hT17 : ax_top G16p = a + 100 := by have h := hB17.1; rw [hL17] at h; exact h
  have hU17 : ax_used G16p = ax_used G + 2582 := hB17.2.1
  clear hL17
  refine x_aast C (t := 3) (ci := 7) (n := 20) (i := 6) (r := (RX7, TX7, 14)) (by have h := hT17; show a + 1 < ax_top G16p; omega) (show ax_K G16p (a + 1) = 3 from (hB17.2.2.1 1 (3, 20, [(5, 72), (4, 58), (3, 44), (2, 30), (1, 16), (0, 2)]) (by decide +kernel)).1) (hB17.2.2.1 1 (3, 20, [(5, 72), (4, 58), (3, 44), (2, 30), (1, 16), (0, 2)]) (by decide +kernel)).2.1 (by decide) (by decide) rfl rfl (by have h := hT17; have h2 := hT16; omega) (by rw [hT16]; exact (hB17.2.2.1 86 (15, 0, [(13, 99), (12, 98), (11, 97), (10, 96), (9, 95), (8, 94), (7, 93), (5, 92), (4, 91), (3, 90), (2, 89), (1, 88), (0, 87)]) (by decide +kernel)).1) (by decide) (by decide) (dk ddX1_init 23 rfl) ?_
  have h_ := hB17.ref (j := 1) (k := 6) (b := List.length tX1_14) (x := (3, 20, [(5, 72), (4, 58), (3, 44), (2, 30), (1, 16), (0, 2)])) (by decide +kernel) (by decide +kernel)
  rw [← hB16.1] at h_
  have hB18 : ax_Bt G I L a (ax_used G + 2582) tX1_16 iX1_10 (ax_gR G16p (a + 1) 6 (some (ax_top G16))) I16p L16p := h_
  generalize ax_gR G16p (a + 1) 6 (some (ax_top G16)) = G18 at hB18 ⊢
  have hL18 : List.length tX1_16 = 100 := by decide +kernel
  have hT18 : ax_top G18 = a + 100 := by have h := hB18.1; rw [hL18] at h; exact h
  have hU18 : ax_used G18 = ax_used G + 2582 := hB18.2.1
  clear hL18
  clear h_ hq
  clear hB16 hT16 hU16 hB17 hT17 hU17
  refine x_iinc C (v := nI 7) (lv' := [(1, .int (nI 7)), (0, .ref a)]) (dk ddX1_init 24 rfl) rfl (by decide) (by decide) rfl ?_
  refine x_goto C (tgt := 25) (dk ddX1_init 25 rfl) (by decide) ?_
  refine x_iload_n C (dk ddX1_init 14 rfl) rfl ?_
  refine x_bipush C (v := nI 20) (dk ddX1_init 15 rfl) (by decide) ?_
  refine x_icmp_ge C (tgt := 50) (dk ddX1_init 16 rfl) (by decide) (fun h_ => absurd h_ (by decide)) (fun h_ => ?_)
  clear h_
  refine x_aload_n C (dk ddX1_init 17 rfl) rfl ?_
  refine x_getr C flX1_11 rfl (by have h := hT18; show a < ax_top G18; omega) (show ax_K G18 a = 8 + 1 from (hB18.2.2.1 0 (9, 0, [(0, 1)]) (by decide +kernel)).1) (show ax_R G18 a 0 = some (a + 1) from (hB18.2.2.1 0 (9, 0, [(0, 1)]) (by decide +kernel)).2.2 (0, 1) (by decide)) (dk ddX1_init 18 rfl) ?_
  refine x_iload_n C (dk ddX1_init 19 rfl) rfl ?_
  refine x_new C (ci := 7) (q0 := (RX7, TX7, 14)) (tyf := tyX7) rfl cw7 tyX7_ok dfX7 (ax_inT 1 100 (by decide +kernel)) (ax_inT 1 25 (by decide +kernel)) miX7 (by have h := hT18; show ax_top G18 + 1 ≤ ax_top G + 281; omega) (by have h := hU18; show ax_used G18 + 14 ≤ ax_used G + 7340; omega) (dk ddX1_init 20 rfl) ?_
  refine x_dup C (dk ddX1_init 21 rfl) rfl ?_
  refine x_callI C (As := []) (k_X7_init l D T o (d - 1) (ax_new G18 15 0 14) (ax_z I16p (ax_top G18) 0) (ax_z L16p (ax_top G18) 0) (ax_top G18) rfl (ax_new_K G18 15 0 14) (ax_new_N G18 15 0 14) (ax_z_eq _ _ _) (ax_z_eq _ _ _) (by omega)) mlX1_24 ⟨by show d - 1 + 1 ≤ d; omega, by show 40 * (d - 1 + 1) ≤ 40 * d; omega⟩ ⟨by have h := hT18; show ax_top G18 + 1 + 13 ≤ ax_top G + 281; omega, by have h := hU18; show ax_used G18 + 14 + 352 ≤ ax_used G + 7340; omega⟩ rfl (Nat.le_of_ble_eq_true rfl) (dk ddX1_init 22 rfl) ?_
  rintro v_ G18p I18p L18p ⟨rfl, hp⟩
  have hq := hB18.obj hp
  clear hp
  have hB19 : ax_Bt G I L a (ax_used G + 2948) tX1_17 iX1_11 G18p I18p L18p := hq
  have hL19 : List.length tX1_17 = 114 := by decide +kernel
  have hT19 : ax_top G18p = a + 114 := by have h := hB19.1; rw [hL19] at h; exact h
  have hU19 : ax_used G18p = ax_used G + 2948 := hB19.2.1
  clear hL19
  refine x_aast C (t := 3) (ci := 7) (n := 20) (i := 7) (r := (RX7, TX7, 14)) (by have h := hT19; show a + 1 < ax_top G18p; omega) (show ax_K G18p (a + 1) = 3 from (hB19.2.2.1 1 (3, 20, [(6, 86), (5, 72), (4, 58), (3, 44), (2, 30), (1, 16), (0, 2)]) (by decide +kernel)).1) (hB19.2.2.1 1 (3, 20, [(6, 86), (5, 72), (4, 58), (3, 44), (2, 30), (1, 16), (0, 2)]) (by decide +kernel)).2.1 (by decide) (by decide) rfl rfl (by have h := hT19; have h2 := hT18; omega) (by rw [hT18]; exact (hB19.2.2.1 100 (15, 0, [(13, 113), (12, 112), (11, 111), (10, 110), (9, 109), (8, 108), (7, 107), (5, 106), (4, 105), (3, 104), (2, 103), (1, 102), (0, 101)]) (by decide +kernel)).1) (by decide) (by decide) (dk ddX1_init 23 rfl) ?_
  have h_ := hB19.ref (j := 1) (k := 7) (b := List.length tX1_16) (x := (3, 20, [(6, 86), (5, 72), (4, 58), (3, 44), (2, 30), (1, 16), (0, 2)])) (by decide +kernel) (by decide +kernel)
  rw [← hB18.1] at h_
  have hB20 : ax_Bt G I L a (ax_used G + 2948) tX1_18 iX1_11 (ax_gR G18p (a + 1) 7 (some (ax_top G18))) I18p L18p := h_
  generalize ax_gR G18p (a + 1) 7 (some (ax_top G18)) = G20 at hB20 ⊢
  have hL20 : List.length tX1_18 = 114 := by decide +kernel
  have hT20 : ax_top G20 = a + 114 := by have h := hB20.1; rw [hL20] at h; exact h
  have hU20 : ax_used G20 = ax_used G + 2948 := hB20.2.1
  clear hL20
  clear h_ hq
  clear hB18 hT18 hU18 hB19 hT19 hU19
  refine x_iinc C (v := nI 8) (lv' := [(1, .int (nI 8)), (0, .ref a)]) (dk ddX1_init 24 rfl) rfl (by decide) (by decide) rfl ?_
  refine x_goto C (tgt := 25) (dk ddX1_init 25 rfl) (by decide) ?_
  refine x_iload_n C (dk ddX1_init 14 rfl) rfl ?_
  refine x_bipush C (v := nI 20) (dk ddX1_init 15 rfl) (by decide) ?_
  refine x_icmp_ge C (tgt := 50) (dk ddX1_init 16 rfl) (by decide) (fun h_ => absurd h_ (by decide)) (fun h_ => ?_)
  clear h_
  refine x_aload_n C (dk ddX1_init 17 rfl) rfl ?_
  refine x_getr C flX1_11 rfl (by have h := hT20; show a < ax_top G20; omega) (show ax_K G20 a = 8 + 1 from (hB20.2.2.1 0 (9, 0, [(0, 1)]) (by decide +kernel)).1) (show ax_R G20 a 0 = some (a + 1) from (hB20.2.2.1 0 (9, 0, [(0, 1)]) (by decide +kernel)).2.2 (0, 1) (by decide)) (dk ddX1_init 18 rfl) ?_
  refine x_iload_n C (dk ddX1_init 19 rfl) rfl ?_
  refine x_new C (ci := 7) (q0 := (RX7, TX7, 14)) (tyf := tyX7) rfl cw7 tyX7_ok dfX7 (ax_inT 1 100 (by decide +kernel)) (ax_inT 1 25 (by decide +kernel)) miX7 (by have h := hT20; show ax_top G20 + 1 ≤ ax_top G + 281; omega) (by have h := hU20; show ax_used G20 + 14 ≤ ax_used G + 7340; omega) (dk ddX1_init 20 rfl) ?_
  refine x_dup C (dk ddX1_init 21 rfl) rfl ?_
  refine x_callI C (As := []) (k_X7_init l D T o (d - 1) (ax_new G20 15 0 14) (ax_z I18p (ax_top G20) 0) (ax_z L18p (ax_top G20) 0) (ax_top G20) rfl (ax_new_K G20 15 0 14) (ax_new_N G20 15 0 14) (ax_z_eq _ _ _) (ax_z_eq _ _ _) (by omega)) mlX1_24 ⟨by show d - 1 + 1 ≤ d; omega, by show 40 * (d - 1 + 1) ≤ 40 * d; omega⟩ ⟨by have h := hT20; show ax_top G20 + 1 + 13 ≤ ax_top G + 281; omega, by have h := hU20; show ax_used G20 + 14 + 352 ≤ ax_used G + 7340; omega⟩ rfl (Nat.le_of_ble_eq_true rfl) (dk ddX1_init 22 rfl) ?_
  rintro v_ G20p I20p L20p ⟨rfl, hp⟩
  have hq := hB20.obj hp
  clear hp
  have hB21 : ax_Bt G I L a (ax_used G + 3314) tX1_19 iX1_12 G20p I20p L20p := hq
  have hL21 : List.length tX1_19 = 128 := by decide +kernel
  have hT21 : ax_top G20p = a + 128 := by have h := hB21.1; rw [hL21] at h; exact h
  have hU21 : ax_used G20p = ax_used G + 3314 := hB21.2.1
  clear hL21
  refine x_aast C (t := 3) (ci := 7) (n := 20) (i := 8) (r := (RX7, TX7, 14)) (by have h := hT21; show a + 1 < ax_top G20p; omega) (show ax_K G20p (a + 1) = 3 from (hB21.2.2.1 1 (3, 20, [(7, 100), (6, 86), (5, 72), (4, 58), (3, 44), (2, 30), (1, 16), (0, 2)]) (by decide +kernel)).1) (hB21.2.2.1 1 (3, 20, [(7, 100), (6, 86), (5, 72), (4, 58), (3, 44), (2, 30), (1, 16), (0, 2)]) (by decide +kernel)).2.1 (by decide) (by decide) rfl rfl (by have h := hT21; have h2 := hT20; omega) (by rw [hT20]; exact (hB21.2.2.1 114 (15, 0, [(13, 127), (12, 126), (11, 125), (10, 124), (9, 123), (8, 122), (7, 121), (5, 120), (4, 119), (3, 118), (2, 117), (1, 116), (0, 115)]) (by decide +kernel)).1) (by decide) (by decide) (dk ddX1_init 23 rfl) ?_
  have h_ := hB21.ref (j := 1) (k := 8) (b := List.length tX1_18) (x := (3, 20, [(7, 100), (6, 86), (5, 72), (4, 58), (3, 44), (2, 30), (1, 16), (0, 2)])) (by decide +kernel) (by decide +kernel)
  rw [← hB20.1] at h_
  have hB22 : ax_Bt G I L a (ax_used G + 3314) tX1_20 iX1_12 (ax_gR G20p (a + 1) 8 (some (ax_top G20))) I20p L20p := h_
  generalize ax_gR G20p (a + 1) 8 (some (ax_top G20)) = G22 at hB22 ⊢
  have hL22 : List.length tX1_20 = 128 := by decide +kernel
  have hT22 : ax_top G22 = a + 128 := by have h := hB22.1; rw [hL22] at h; exact h
  have hU22 : ax_used G22 = ax_used G + 3314 := hB22.2.1
  clear hL22
  clear h_ hq
  clear hB20 hT20 hU20 hB21 hT21 hU21
  refine x_iinc C (v := nI 9) (lv' := [(1, .int (nI 9)), (0, .ref a)]) (dk ddX1_init 24 rfl) rfl (by decide) (by decide) rfl ?_
  refine x_goto C (tgt := 25) (dk ddX1_init 25 rfl) (by decide) ?_
  refine x_iload_n C (dk ddX1_init 14 rfl) rfl ?_
  refine x_bipush C (v := nI 20) (dk ddX1_init 15 rfl) (by decide) ?_
  refine x_icmp_ge C (tgt := 50) (dk ddX1_init 16 rfl) (by decide) (fun h_ => absurd h_ (by decide)) (fun h_ => ?_)
  clear h_
  refine x_aload_n C (dk ddX1_init 17 rfl) rfl ?_
  refine x_getr C flX1_11 rfl (by have h := hT22; show a < ax_top G22; omega) (show ax_K G22 a = 8 + 1 from (hB22.2.2.1 0 (9, 0, [(0, 1)]) (by decide +kernel)).1) (show ax_R G22 a 0 = some (a + 1) from (hB22.2.2.1 0 (9, 0, [(0, 1)]) (by decide +kernel)).2.2 (0, 1) (by decide)) (dk ddX1_init 18 rfl) ?_
  refine x_iload_n C (dk ddX1_init 19 rfl) rfl ?_
  refine x_new C (ci := 7) (q0 := (RX7, TX7, 14)) (tyf := tyX7) rfl cw7 tyX7_ok dfX7 (ax_inT 1 100 (by decide +kernel)) (ax_inT 1 25 (by decide +kernel)) miX7 (by have h := hT22; show ax_top G22 + 1 ≤ ax_top G + 281; omega) (by have h := hU22; show ax_used G22 + 14 ≤ ax_used G + 7340; omega) (dk ddX1_init 20 rfl) ?_
  refine x_dup C (dk ddX1_init 21 rfl) rfl ?_
  refine x_callI C (As := []) (k_X7_init l D T o (d - 1) (ax_new G22 15 0 14) (ax_z I20p (ax_top G22) 0) (ax_z L20p (ax_top G22) 0) (ax_top G22) rfl (ax_new_K G22 15 0 14) (ax_new_N G22 15 0 14) (ax_z_eq _ _ _) (ax_z_eq _ _ _) (by omega)) mlX1_24 ⟨by show d - 1 + 1 ≤ d; omega, by show 40 * (d - 1 + 1) ≤ 40 * d; omega⟩ ⟨by have h := hT22; show ax_top G22 + 1 + 13 ≤ ax_top G + 281; omega, by have h := hU22; show ax_used G22 + 14 + 352 ≤ ax_used G + 7340; omega⟩ rfl (Nat.le_of_ble_eq_true rfl) (dk ddX1_init 22 rfl) ?_
  rintro v_ G22p I22p L22p ⟨rfl, hp⟩
  have hq := hB22.obj hp
  clear hp
  have hB23 : ax_Bt G I L a (ax_used G + 3680) tX1_21 iX1_13 G22p I22p L22p := hq
  have hL23 : List.length tX1_21 = 142 := by decide +kernel
  have hT23 : ax_top G22p = a + 142 := by have h := hB23.1; rw [hL23] at h; exact h
  have hU23 : ax_used G22p = ax_used G + 3680 := hB23.2.1
  clear hL23
  refine x_aast C (t := 3) (ci := 7) (n := 20) (i := 9) (r := (RX7, TX7, 14)) (by have h := hT23; show a + 1 < ax_top G22p; omega) (show ax_K G22p (a + 1) = 3 from (hB23.2.2.1 1 (3, 20, [(8, 114), (7, 100), (6, 86), (5, 72), (4, 58), (3, 44), (2, 30), (1, 16), (0, 2)]) (by decide +kernel)).1) (hB23.2.2.1 1 (3, 20, [(8, 114), (7, 100), (6, 86), (5, 72), (4, 58), (3, 44), (2, 30), (1, 16), (0, 2)]) (by decide +kernel)).2.1 (by decide) (by decide) rfl rfl (by have h := hT23; have h2 := hT22; omega) (by rw [hT22]; exact (hB23.2.2.1 128 (15, 0, [(13, 141), (12, 140), (11, 139), (10, 138), (9, 137), (8, 136), (7, 135), (5, 134), (4, 133), (3, 132), (2, 131), (1, 130), (0, 129)]) (by decide +kernel)).1) (by decide) (by decide) (dk ddX1_init 23 rfl) ?_
  have h_ := hB23.ref (j := 1) (k := 9) (b := List.length tX1_20) (x := (3, 20, [(8, 114), (7, 100), (6, 86), (5, 72), (4, 58), (3, 44), (2, 30), (1, 16), (0, 2)])) (by decide +kernel) (by decide +kernel)
  rw [← hB22.1] at h_
  have hB24 : ax_Bt G I L a (ax_used G + 3680) tX1_22 iX1_13 (ax_gR G22p (a + 1) 9 (some (ax_top G22))) I22p L22p := h_
  generalize ax_gR G22p (a + 1) 9 (some (ax_top G22)) = G24 at hB24 ⊢
  have hL24 : List.length tX1_22 = 142 := by decide +kernel
  have hT24 : ax_top G24 = a + 142 := by have h := hB24.1; rw [hL24] at h; exact h
  have hU24 : ax_used G24 = ax_used G + 3680 := hB24.2.1
  clear hL24
  clear h_ hq
  clear hB22 hT22 hU22 hB23 hT23 hU23
  refine x_iinc C (v := nI 10) (lv' := [(1, .int (nI 10)), (0, .ref a)]) (dk ddX1_init 24 rfl) rfl (by decide) (by decide) rfl ?_
  refine x_goto C (tgt := 25) (dk ddX1_init 25 rfl) (by decide) ?_
  refine x_iload_n C (dk ddX1_init 14 rfl) rfl ?_
  refine x_bipush C (v := nI 20) (dk ddX1_init 15 rfl) (by decide) ?_
  refine x_icmp_ge C (tgt := 50) (dk ddX1_init 16 rfl) (by decide) (fun h_ => absurd h_ (by decide)) (fun h_ => ?_)
  clear h_
  refine x_aload_n C (dk ddX1_init 17 rfl) rfl ?_
  refine x_getr C flX1_11 rfl (by have h := hT24; show a < ax_top G24; omega) (show ax_K G24 a = 8 + 1 from (hB24.2.2.1 0 (9, 0, [(0, 1)]) (by decide +kernel)).1) (show ax_R G24 a 0 = some (a + 1) from (hB24.2.2.1 0 (9, 0, [(0, 1)]) (by decide +kernel)).2.2 (0, 1) (by decide)) (dk ddX1_init 18 rfl) ?_
  refine x_iload_n C (dk ddX1_init 19 rfl) rfl ?_
  refine x_new C (ci := 7) (q0 := (RX7, TX7, 14)) (tyf := tyX7) rfl cw7 tyX7_ok dfX7 (ax_inT 1 100 (by decide +kernel)) (ax_inT 1 25 (by decide +kernel)) miX7 (by have h := hT24; show ax_top G24 + 1 ≤ ax_top G + 281; omega) (by have h := hU24; show ax_used G24 + 14 ≤ ax_used G + 7340; omega) (dk ddX1_init 20 rfl) ?_
  refine x_dup C (dk ddX1_init 21 rfl) rfl ?_
  refine x_callI C (As := []) (k_X7_init l D T o (d - 1) (ax_new G24 15 0 14) (ax_z I22p (ax_top G24) 0) (ax_z L22p (ax_top G24) 0) (ax_top G24) rfl (ax_new_K G24 15 0 14) (ax_new_N G24 15 0 14) (ax_z_eq _ _ _) (ax_z_eq _ _ _) (by omega)) mlX1_24 ⟨by show d - 1 + 1 ≤ d; omega, by show 40 * (d - 1 + 1) ≤ 40 * d; omega⟩ ⟨by have h := hT24; show ax_top G24 + 1 + 13 ≤ ax_top G + 281; omega, by have h := hU24; show ax_used G24 + 14 + 352 ≤ ax_used G + 7340; omega⟩ rfl (Nat.le_of_ble_eq_true rfl) (dk ddX1_init 22 rfl) ?_
  rintro v_ G24p I24p L24p ⟨rfl, hp⟩
  have hq := hB24.obj hp
  clear hp
  have hB25 : ax_Bt G I L a (ax_used G + 4046) tX1_23 iX1_14 G24p I24p L24p := hq
  have hL25 : List.length tX1_23 = 156 := by decide +kernel
  have hT25 : ax_top G24p = a + 156 := by have h := hB25.1; rw [hL25] at h; exact h
  have hU25 : ax_used G24p = ax_used G + 4046 := hB25.2.1
  clear hL25
  refine x_aast C (t := 3) (ci := 7) (n := 20) (i := 10) (r := (RX7, TX7, 14)) (by have h := hT25; show a + 1 < ax_top G24p; omega) (show ax_K G24p (a + 1) = 3 from (hB25.2.2.1 1 (3, 20, [(9, 128), (8, 114), (7, 100), (6, 86), (5, 72), (4, 58), (3, 44), (2, 30), (1, 16), (0, 2)]) (by decide +kernel)).1) (hB25.2.2.1 1 (3, 20, [(9, 128), (8, 114), (7, 100), (6, 86), (5, 72), (4, 58), (3, 44), (2, 30), (1, 16), (0, 2)]) (by decide +kernel)).2.1 (by decide) (by decide) rfl rfl (by have h := hT25; have h2 := hT24; omega) (by rw [hT24]; exact (hB25.2.2.1 142 (15, 0, [(13, 155), (12, 154), (11, 153), (10, 152), (9, 151), (8, 150), (7, 149), (5, 148), (4, 147), (3, 146), (2, 145), (1, 144), (0, 143)]) (by decide +kernel)).1) (by decide) (by decide) (dk ddX1_init 23 rfl) ?_
  have h_ := hB25.ref (j := 1) (k := 10) (b := List.length tX1_22) (x := (3, 20, [(9, 128), (8, 114), (7, 100), (6, 86), (5, 72), (4, 58), (3, 44), (2, 30), (1, 16), (0, 2)])) (by decide +kernel) (by decide +kernel)
  rw [← hB24.1] at h_
  have hB26 : ax_Bt G I L a (ax_used G + 4046) tX1_24 iX1_14 (ax_gR G24p (a + 1) 10 (some (ax_top G24))) I24p L24p := h_
  generalize ax_gR G24p (a + 1) 10 (some (ax_top G24)) = G26 at hB26 ⊢
  have hL26 : List.length tX1_24 = 156 := by decide +kernel
  have hT26 : ax_top G26 = a + 156 := by have h := hB26.1; rw [hL26] at h; exact h
  have hU26 : ax_used G26 = ax_used G + 4046 := hB26.2.1
  clear hL26
  clear h_ hq
  clear hB24 hT24 hU24 hB25 hT25 hU25
  refine x_iinc C (v := nI 11) (lv' := [(1, .int (nI 11)), (0, .ref a)]) (dk ddX1_init 24 rfl) rfl (by decide) (by decide) rfl ?_
  refine x_goto C (tgt := 25) (dk ddX1_init 25 rfl) (by decide) ?_
  refine x_iload_n C (dk ddX1_init 14 rfl) rfl ?_
  refine x_bipush C (v := nI 20) (dk ddX1_init 15 rfl) (by decide) ?_
  refine x_icmp_ge C (tgt := 50) (dk ddX1_init 16 rfl) (by decide) (fun h_ => absurd h_ (by decide)) (fun h_ => ?_)
  clear h_
  refine x_aload_n C (dk ddX1_init 17 rfl) rfl ?_
  refine x_getr C flX1_11 rfl (by have h := hT26; show a < ax_top G26; omega) (show ax_K G26 a = 8 + 1 from (hB26.2.2.1 0 (9, 0, [(0, 1)]) (by decide +kernel)).1) (show ax_R G26 a 0 = some (a + 1) from (hB26.2.2.1 0 (9, 0, [(0, 1)]) (by decide +kernel)).2.2 (0, 1) (by decide)) (dk ddX1_init 18 rfl) ?_
  refine x_iload_n C (dk ddX1_init 19 rfl) rfl ?_
  refine x_new C (ci := 7) (q0 := (RX7, TX7, 14)) (tyf := tyX7) rfl cw7 tyX7_ok dfX7 (ax_inT 1 100 (by decide +kernel)) (ax_inT 1 25 (by decide +kernel)) miX7 (by have h := hT26; show ax_top G26 + 1 ≤ ax_top G + 281; omega) (by have h := hU26; show ax_used G26 + 14 ≤ ax_used G + 7340; omega) (dk ddX1_init 20 rfl) ?_
  refine x_dup C (dk ddX1_init 21 rfl) rfl ?_
  refine x_callI C (As := []) (k_X7_init l D T o (d - 1) (ax_new G26 15 0 14) (ax_z I24p (ax_top G26) 0) (ax_z L24p (ax_top G26) 0) (ax_top G26) rfl (ax_new_K G26 15 0 14) (ax_new_N G26 15 0 14) (ax_z_eq _ _ _) (ax_z_eq _ _ _) (by omega)) mlX1_24 ⟨by show d - 1 + 1 ≤ d; omega, by show 40 * (d - 1 + 1) ≤ 40 * d; omega⟩ ⟨by have h := hT26; show ax_top G26 + 1 + 13 ≤ ax_top G + 281; omega, by have h := hU26; show ax_used G26 + 14 + 352 ≤ ax_used G + 7340; omega⟩ rfl (Nat.le_of_ble_eq_true rfl) (dk ddX1_init 22 rfl) ?_
  rintro v_ G26p I26p L26p ⟨rfl, hp⟩
  have hq := hB26.obj hp
  clear hp
  have hB27 : ax_Bt G I L a (ax_used G + 4412) tX1_25 iX1_15 G26p I26p L26p := hq
  have hL27 : List.length tX1_25 = 170 := by decide +kernel
  have hT27 : ax_top G26p = a + 170 := by have h := hB27.1; rw [hL27] at h; exact h
  have hU27 : ax_used G26p = ax_used G + 4412 := hB27.2.1
  clear hL27
  refine x_aast C (t := 3) (ci := 7) (n := 20) (i := 11) (r := (RX7, TX7, 14)) (by have h := hT27; show a + 1 < ax_top G26p; omega) (show ax_K G26p (a + 1) = 3 from (hB27.2.2.1 1 (3, 20, [(10, 142), (9, 128), (8, 114), (7, 100), (6, 86), (5, 72), (4, 58), (3, 44), (2, 30), (1, 16), (0, 2)]) (by decide +kernel)).1) (hB27.2.2.1 1 (3, 20, [(10, 142), (9, 128), (8, 114), (7, 100), (6, 86), (5, 72), (4, 58), (3, 44), (2, 30), (1, 16), (0, 2)]) (by decide +kernel)).2.1 (by decide) (by decide) rfl rfl (by have h := hT27; have h2 := hT26; omega) (by rw [hT26]; exact (hB27.2.2.1 156 (15, 0, [(13, 169), (12, 168), (11, 167), (10, 166), (9, 165), (8, 164), (7, 163), (5, 162), (4, 161), (3, 160), (2, 159), (1, 158), (0, 157)]) (by decide +kernel)).1) (by decide) (by decide) (dk ddX1_init 23 rfl) ?_
  have h_ := hB27.ref (j := 1) (k := 11) (b := List.length tX1_24) (x := (3, 20, [(10, 142), (9, 128), (8, 114), (7, 100), (6, 86), (5, 72), (4, 58), (3, 44), (2, 30), (1, 16), (0, 2)])) (by decide +kernel) (by decide +kernel)
  rw [← hB26.1] at h_
  have hB28 : ax_Bt G I L a (ax_used G + 4412) tX1_26 iX1_15 (ax_gR G26p (a + 1) 11 (some (ax_top G26))) I26p L26p := h_
  generalize ax_gR G26p (a + 1) 11 (some (ax_top G26)) = G28 at hB28 ⊢
  have hL28 : List.length tX1_26 = 170 := by decide +kernel
  have hT28 : ax_top G28 = a + 170 := by have h := hB28.1; rw [hL28] at h; exact h
  have hU28 : ax_used G28 = ax_used G + 4412 := hB28.2.1
  clear hL28
  clear h_ hq
  clear hB26 hT26 hU26 hB27 hT27 hU27
  refine x_iinc C (v := nI 12) (lv' := [(1, .int (nI 12)), (0, .ref a)]) (dk ddX1_init 24 rfl) rfl (by decide) (by decide) rfl ?_
  refine x_goto C (tgt := 25) (dk ddX1_init 25 rfl) (by decide) ?_
  refine x_iload_n C (dk ddX1_init 14 rfl) rfl ?_
  refine x_bipush C (v := nI 20) (dk ddX1_init 15 rfl) (by decide) ?_
  refine x_icmp_ge C (tgt := 50) (dk ddX1_init 16 rfl) (by decide) (fun h_ => absurd h_ (by decide)) (fun h_ => ?_)
  clear h_
  refine x_aload_n C (dk ddX1_init 17 rfl) rfl ?_
  refine x_getr C flX1_11 rfl (by have h := hT28; show a < ax_top G28; omega) (show ax_K G28 a = 8 + 1 from (hB28.2.2.1 0 (9, 0, [(0, 1)]) (by decide +kernel)).1) (show ax_R G28 a 0 = some (a + 1) from (hB28.2.2.1 0 (9, 0, [(0, 1)]) (by decide +kernel)).2.2 (0, 1) (by decide)) (dk ddX1_init 18 rfl) ?_
  refine x_iload_n C (dk ddX1_init 19 rfl) rfl ?_
  refine x_new C (ci := 7) (q0 := (RX7, TX7, 14)) (tyf := tyX7) rfl cw7 tyX7_ok dfX7 (ax_inT 1 100 (by decide +kernel)) (ax_inT 1 25 (by decide +kernel)) miX7 (by have h := hT28; show ax_top G28 + 1 ≤ ax_top G + 281; omega) (by have h := hU28; show ax_used G28 + 14 ≤ ax_used G + 7340; omega) (dk ddX1_init 20 rfl) ?_
  refine x_dup C (dk ddX1_init 21 rfl) rfl ?_
  refine x_callI C (As := []) (k_X7_init l D T o (d - 1) (ax_new G28 15 0 14) (ax_z I26p (ax_top G28) 0) (ax_z L26p (ax_top G28) 0) (ax_top G28) rfl (ax_new_K G28 15 0 14) (ax_new_N G28 15 0 14) (ax_z_eq _ _ _) (ax_z_eq _ _ _) (by omega)) mlX1_24 ⟨by show d - 1 + 1 ≤ d; omega, by show 40 * (d - 1 + 1) ≤ 40 * d; omega⟩ ⟨by have h := hT28; show ax_top G28 + 1 + 13 ≤ ax_top G + 281; omega, by have h := hU28; show ax_used G28 + 14 + 352 ≤ ax_used G + 7340; omega⟩ rfl (Nat.le_of_ble_eq_true rfl) (dk ddX1_init 22 rfl) ?_
  rintro v_ G28p I28p L28p ⟨rfl, hp⟩
  have hq := hB28.obj hp
  clear hp
  have hB29 : ax_Bt G I L a (ax_used G + 4778) tX1_27 iX1_16 G28p I28p L28p := hq
  have hL29 : List.length tX1_27 = 184 := by decide +kernel
  have hT29 : ax_top G28p = a + 184 := by have h := hB29.1; rw [hL29] at h; exact h
  have hU29 : ax_used G28p = ax_used G + 4778 := hB29.2.1
  clear hL29
  refine x_aast C (t := 3) (ci := 7) (n := 20) (i := 12) (r := (RX7, TX7, 14)) (by have h := hT29; show a + 1 < ax_top G28p; omega) (show ax_K G28p (a + 1) = 3 from (hB29.2.2.1 1 (3, 20, [(11, 156), (10, 142), (9, 128), (8, 114), (7, 100), (6, 86), (5, 72), (4, 58), (3, 44), (2, 30), (1, 16), (0, 2)]) (by decide +kernel)).1) (hB29.2.2.1 1 (3, 20, [(11, 156), (10, 142), (9, 128), (8, 114), (7, 100), (6, 86), (5, 72), (4, 58), (3, 44), (2, 30), (1, 16), (0, 2)]) (by decide +kernel)).2.1 (by decide) (by decide) rfl rfl (by have h := hT29; have h2 := hT28; omega) (by rw [hT28]; exact (hB29.2.2.1 170 (15, 0, [(13, 183), (12, 182), (11, 181), (10, 180), (9, 179), (8, 178), (7, 177), (5, 176), (4, 175), (3, 174), (2, 173), (1, 172), (0, 171)]) (by decide +kernel)).1) (by decide) (by decide) (dk ddX1_init 23 rfl) ?_
  have h_ := hB29.ref (j := 1) (k := 12) (b := List.length tX1_26) (x := (3, 20, [(11, 156), (10, 142), (9, 128), (8, 114), (7, 100), (6, 86), (5, 72), (4, 58), (3, 44), (2, 30), (1, 16), (0, 2)])) (by decide +kernel) (by decide +kernel)
  rw [← hB28.1] at h_
  have hB30 : ax_Bt G I L a (ax_used G + 4778) tX1_28 iX1_16 (ax_gR G28p (a + 1) 12 (some (ax_top G28))) I28p L28p := h_
  generalize ax_gR G28p (a + 1) 12 (some (ax_top G28)) = G30 at hB30 ⊢
  have hL30 : List.length tX1_28 = 184 := by decide +kernel
  have hT30 : ax_top G30 = a + 184 := by have h := hB30.1; rw [hL30] at h; exact h
  have hU30 : ax_used G30 = ax_used G + 4778 := hB30.2.1
  clear hL30
  clear h_ hq
  clear hB28 hT28 hU28 hB29 hT29 hU29
  refine x_iinc C (v := nI 13) (lv' := [(1, .int (nI 13)), (0, .ref a)]) (dk ddX1_init 24 rfl) rfl (by decide) (by decide) rfl ?_
  refine x_goto C (tgt := 25) (dk ddX1_init 25 rfl) (by decide) ?_
  refine x_iload_n C (dk ddX1_init 14 rfl) rfl ?_
  refine x_bipush C (v := nI 20) (dk ddX1_init 15 rfl) (by decide) ?_
  refine x_icmp_ge C (tgt := 50) (dk ddX1_init 16 rfl) (by decide) (fun h_ => absurd h_ (by decide)) (fun h_ => ?_)
  clear h_
  refine x_aload_n C (dk ddX1_init 17 rfl) rfl ?_
  refine x_getr C flX1_11 rfl (by have h := hT30; show a < ax_top G30; omega) (show ax_K G30 a = 8 + 1 from (hB30.2.2.1 0 (9, 0, [(0, 1)]) (by decide +kernel)).1) (show ax_R G30 a 0 = some (a + 1) from (hB30.2.2.1 0 (9, 0, [(0, 1)]) (by decide +kernel)).2.2 (0, 1) (by decide)) (dk ddX1_init 18 rfl) ?_
  refine x_iload_n C (dk ddX1_init 19 rfl) rfl ?_
  refine x_new C (ci := 7) (q0 := (RX7, TX7, 14)) (tyf := tyX7) rfl cw7 tyX7_ok dfX7 (ax_inT 1 100 (by decide +kernel)) (ax_inT 1 25 (by decide +kernel)) miX7 (by have h := hT30; show ax_top G30 + 1 ≤ ax_top G + 281; omega) (by have h := hU30; show ax_used G30 + 14 ≤ ax_used G + 7340; omega) (dk ddX1_init 20 rfl) ?_
  refine x_dup C (dk ddX1_init 21 rfl) rfl ?_
  refine x_callI C (As := []) (k_X7_init l D T o (d - 1) (ax_new G30 15 0 14) (ax_z I28p (ax_top G30) 0) (ax_z L28p (ax_top G30) 0) (ax_top G30) rfl (ax_new_K G30 15 0 14) (ax_new_N G30 15 0 14) (ax_z_eq _ _ _) (ax_z_eq _ _ _) (by omega)) mlX1_24 ⟨by show d - 1 + 1 ≤ d; omega, by show 40 * (d - 1 + 1) ≤ 40 * d; omega⟩ ⟨by have h := hT30; show ax_top G30 + 1 + 13 ≤ ax_top G + 281; omega, by have h := hU30; show ax_used G30 + 14 + 352 ≤ ax_used G + 7340; omega⟩ rfl (Nat.le_of_ble_eq_true rfl) (dk ddX1_init 22 rfl) ?_
  rintro v_ G30p I30p L30p ⟨rfl, hp⟩
  have hq := hB30.obj hp
  clear hp
  have hB31 : ax_Bt G I L a (ax_used G + 5144) tX1_29 iX1_17 G30p I30p L30p := hq
  have hL31 : List.length tX1_29 = 198 := by decide +kernel
  have hT31 : ax_top G30p = a + 198 := by have h := hB31.1; rw [hL31] at h; exact h
  have hU31 : ax_used G30p = ax_used G + 5144 := hB31.2.1
  clear hL31
  refine x_aast C (t := 3) (ci := 7) (n := 20) (i := 13) (r := (RX7, TX7, 14)) (by have h := hT31; show a + 1 < ax_top G30p; omega) (show ax_K G30p (a + 1) = 3 from (hB31.2.2.1 1 (3, 20, [(12, 170), (11, 156), (10, 142), (9, 128), (8, 114), (7, 100), (6, 86), (5, 72), (4, 58), (3, 44), (2, 30), (1, 16), (0, 2)]) (by decide +kernel)).1) (hB31.2.2.1 1 (3, 20, [(12, 170), (11, 156), (10, 142), (9, 128), (8, 114), (7, 100), (6, 86), (5, 72), (4, 58), (3, 44), (2, 30), (1, 16), (0, 2)]) (by decide +kernel)).2.1 (by decide) (by decide) rfl rfl (by have h := hT31; have h2 := hT30; omega) (by rw [hT30]; exact (hB31.2.2.1 184 (15, 0, [(13, 197), (12, 196), (11, 195), (10, 194), (9, 193), (8, 192), (7, 191), (5, 190), (4, 189), (3, 188), (2, 187), (1, 186), (0, 185)]) (by decide +kernel)).1) (by decide) (by decide) (dk ddX1_init 23 rfl) ?_
  have h_ := hB31.ref (j := 1) (k := 13) (b := List.length tX1_28) (x := (3, 20, [(12, 170), (11, 156), (10, 142), (9, 128), (8, 114), (7, 100), (6, 86), (5, 72), (4, 58), (3, 44), (2, 30), (1, 16), (0, 2)])) (by decide +kernel) (by decide +kernel)
  rw [← hB30.1] at h_
  have hB32 : ax_Bt G I L a (ax_used G + 5144) tX1_30 iX1_17 (ax_gR G30p (a + 1) 13 (some (ax_top G30))) I30p L30p := h_
  generalize ax_gR G30p (a + 1) 13 (some (ax_top G30)) = G32 at hB32 ⊢
  have hL32 : List.length tX1_30 = 198 := by decide +kernel
  have hT32 : ax_top G32 = a + 198 := by have h := hB32.1; rw [hL32] at h; exact h
  have hU32 : ax_used G32 = ax_used G + 5144 := hB32.2.1
  clear hL32
  clear h_ hq
  clear hB30 hT30 hU30 hB31 hT31 hU31
  refine x_iinc C (v := nI 14) (lv' := [(1, .int (nI 14)), (0, .ref a)]) (dk ddX1_init 24 rfl) rfl (by decide) (by decide) rfl ?_
  refine x_goto C (tgt := 25) (dk ddX1_init 25 rfl) (by decide) ?_
  refine x_iload_n C (dk ddX1_init 14 rfl) rfl ?_
  refine x_bipush C (v := nI 20) (dk ddX1_init 15 rfl) (by decide) ?_
  refine x_icmp_ge C (tgt := 50) (dk ddX1_init 16 rfl) (by decide) (fun h_ => absurd h_ (by decide)) (fun h_ => ?_)
  clear h_
  refine x_aload_n C (dk ddX1_init 17 rfl) rfl ?_
  refine x_getr C flX1_11 rfl (by have h := hT32; show a < ax_top G32; omega) (show ax_K G32 a = 8 + 1 from (hB32.2.2.1 0 (9, 0, [(0, 1)]) (by decide +kernel)).1) (show ax_R G32 a 0 = some (a + 1) from (hB32.2.2.1 0 (9, 0, [(0, 1)]) (by decide +kernel)).2.2 (0, 1) (by decide)) (dk ddX1_init 18 rfl) ?_
  refine x_iload_n C (dk ddX1_init 19 rfl) rfl ?_
  refine x_new C (ci := 7) (q0 := (RX7, TX7, 14)) (tyf := tyX7) rfl cw7 tyX7_ok dfX7 (ax_inT 1 100 (by decide +kernel)) (ax_inT 1 25 (by decide +kernel)) miX7 (by have h := hT32; show ax_top G32 + 1 ≤ ax_top G + 281; omega) (by have h := hU32; show ax_used G32 + 14 ≤ ax_used G + 7340; omega) (dk ddX1_init 20 rfl) ?_
  refine x_dup C (dk ddX1_init 21 rfl) rfl ?_
  refine x_callI C (As := []) (k_X7_init l D T o (d - 1) (ax_new G32 15 0 14) (ax_z I30p (ax_top G32) 0) (ax_z L30p (ax_top G32) 0) (ax_top G32) rfl (ax_new_K G32 15 0 14) (ax_new_N G32 15 0 14) (ax_z_eq _ _ _) (ax_z_eq _ _ _) (by omega)) mlX1_24 ⟨by show d - 1 + 1 ≤ d; omega, by show 40 * (d - 1 + 1) ≤ 40 * d; omega⟩ ⟨by have h := hT32; show ax_top G32 + 1 + 13 ≤ ax_top G + 281; omega, by have h := hU32; show ax_used G32 + 14 + 352 ≤ ax_used G + 7340; omega⟩ rfl (Nat.le_of_ble_eq_true rfl) (dk ddX1_init 22 rfl) ?_
  rintro v_ G32p I32p L32p ⟨rfl, hp⟩
  have hq := hB32.obj hp
  clear hp
  have hB33 : ax_Bt G I L a (ax_used G + 5510) tX1_31 iX1_18 G32p I32p L32p := hq
  have hL33 : List.length tX1_31 = 212 := by decide +kernel
  have hT33 : ax_top G32p = a + 212 := by have h := hB33.1; rw [hL33] at h; exact h
  have hU33 : ax_used G32p = ax_used G + 5510 := hB33.2.1
  clear hL33
  refine x_aast C (t := 3) (ci := 7) (n := 20) (i := 14) (r := (RX7, TX7, 14)) (by have h := hT33; show a + 1 < ax_top G32p; omega) (show ax_K G32p (a + 1) = 3 from (hB33.2.2.1 1 (3, 20, [(13, 184), (12, 170), (11, 156), (10, 142), (9, 128), (8, 114), (7, 100), (6, 86), (5, 72), (4, 58), (3, 44), (2, 30), (1, 16), (0, 2)]) (by decide +kernel)).1) (hB33.2.2.1 1 (3, 20, [(13, 184), (12, 170), (11, 156), (10, 142), (9, 128), (8, 114), (7, 100), (6, 86), (5, 72), (4, 58), (3, 44), (2, 30), (1, 16), (0, 2)]) (by decide +kernel)).2.1 (by decide) (by decide) rfl rfl (by have h := hT33; have h2 := hT32; omega) (by rw [hT32]; exact (hB33.2.2.1 198 (15, 0, [(13, 211), (12, 210), (11, 209), (10, 208), (9, 207), (8, 206), (7, 205), (5, 204), (4, 203), (3, 202), (2, 201), (1, 200), (0, 199)]) (by decide +kernel)).1) (by decide) (by decide) (dk ddX1_init 23 rfl) ?_
  have h_ := hB33.ref (j := 1) (k := 14) (b := List.length tX1_30) (x := (3, 20, [(13, 184), (12, 170), (11, 156), (10, 142), (9, 128), (8, 114), (7, 100), (6, 86), (5, 72), (4, 58), (3, 44), (2, 30), (1, 16), (0, 2)])) (by decide +kernel) (by decide +kernel)
  rw [← hB32.1] at h_
  have hB34 : ax_Bt G I L a (ax_used G + 5510) tX1_32 iX1_18 (ax_gR G32p (a + 1) 14 (some (ax_top G32))) I32p L32p := h_
  generalize ax_gR G32p (a + 1) 14 (some (ax_top G32)) = G34 at hB34 ⊢
  have hL34 : List.length tX1_32 = 212 := by decide +kernel
  have hT34 : ax_top G34 = a + 212 := by have h := hB34.1; rw [hL34] at h; exact h
  have hU34 : ax_used G34 = ax_used G + 5510 := hB34.2.1
  clear hL34
  clear h_ hq
  clear hB32 hT32 hU32 hB33 hT33 hU33
  refine x_iinc C (v := nI 15) (lv' := [(1, .int (nI 15)), (0, .ref a)]) (dk ddX1_init 24 rfl) rfl (by decide) (by decide) rfl ?_
  refine x_goto C (tgt := 25) (dk ddX1_init 25 rfl) (by decide) ?_
  refine x_iload_n C (dk ddX1_init 14 rfl) rfl ?_
  refine x_bipush C (v := nI 20) (dk ddX1_init 15 rfl) (by decide) ?_
  refine x_icmp_ge C (tgt := 50) (dk ddX1_init 16 rfl) (by decide) (fun h_ => absurd h_ (by decide)) (fun h_ => ?_)
  clear h_
  refine x_aload_n C (dk ddX1_init 17 rfl) rfl ?_
  refine x_getr C flX1_11 rfl (by have h := hT34; show a < ax_top G34; omega) (show ax_K G34 a = 8 + 1 from (hB34.2.2.1 0 (9, 0, [(0, 1)]) (by decide +kernel)).1) (show ax_R G34 a 0 = some (a + 1) from (hB34.2.2.1 0 (9, 0, [(0, 1)]) (by decide +kernel)).2.2 (0, 1) (by decide)) (dk ddX1_init 18 rfl) ?_
  refine x_iload_n C (dk ddX1_init 19 rfl) rfl ?_
  refine x_new C (ci := 7) (q0 := (RX7, TX7, 14)) (tyf := tyX7) rfl cw7 tyX7_ok dfX7 (ax_inT 1 100 (by decide +kernel)) (ax_inT 1 25 (by decide +kernel)) miX7 (by have h := hT34; show ax_top G34 + 1 ≤ ax_top G + 281; omega) (by have h := hU34; show ax_used G34 + 14 ≤ ax_used G + 7340; omega) (dk ddX1_init 20 rfl) ?_
  refine x_dup C (dk ddX1_init 21 rfl) rfl ?_
  refine x_callI C (As := []) (k_X7_init l D T o (d - 1) (ax_new G34 15 0 14) (ax_z I32p (ax_top G34) 0) (ax_z L32p (ax_top G34) 0) (ax_top G34) rfl (ax_new_K G34 15 0 14) (ax_new_N G34 15 0 14) (ax_z_eq _ _ _) (ax_z_eq _ _ _) (by omega)) mlX1_24 ⟨by show d - 1 + 1 ≤ d; omega, by show 40 * (d - 1 + 1) ≤ 40 * d; omega⟩ ⟨by have h := hT34; show ax_top G34 + 1 + 13 ≤ ax_top G + 281; omega, by have h := hU34; show ax_used G34 + 14 + 352 ≤ ax_used G + 7340; omega⟩ rfl (Nat.le_of_ble_eq_true rfl) (dk ddX1_init 22 rfl) ?_
  rintro v_ G34p I34p L34p ⟨rfl, hp⟩
  have hq := hB34.obj hp
  clear hp
  have hB35 : ax_Bt G I L a (ax_used G + 5876) tX1_33 iX1_19 G34p I34p L34p := hq
  have hL35 : List.length tX1_33 = 226 := by decide +kernel
  have hT35 : ax_top G34p = a + 226 := by have h := hB35.1; rw [hL35] at h; exact h
  have hU35 : ax_used G34p = ax_used G + 5876 := hB35.2.1
  clear hL35
  refine x_aast C (t := 3) (ci := 7) (n := 20) (i := 15) (r := (RX7, TX7, 14)) (by have h := hT35; show a + 1 < ax_top G34p; omega) (show ax_K G34p (a + 1) = 3 from (hB35.2.2.1 1 (3, 20, [(14, 198), (13, 184), (12, 170), (11, 156), (10, 142), (9, 128), (8, 114), (7, 100), (6, 86), (5, 72), (4, 58), (3, 44), (2, 30), (1, 16), (0, 2)]) (by decide +kernel)).1) (hB35.2.2.1 1 (3, 20, [(14, 198), (13, 184), (12, 170), (11, 156), (10, 142), (9, 128), (8, 114), (7, 100), (6, 86), (5, 72), (4, 58), (3, 44), (2, 30), (1, 16), (0, 2)]) (by decide +kernel)).2.1 (by decide) (by decide) rfl rfl (by have h := hT35; have h2 := hT34; omega) (by rw [hT34]; exact (hB35.2.2.1 212 (15, 0, [(13, 225), (12, 224), (11, 223), (10, 222), (9, 221), (8, 220), (7, 219), (5, 218), (4, 217), (3, 216), (2, 215), (1, 214), (0, 213)]) (by decide +kernel)).1) (by decide) (by decide) (dk ddX1_init 23 rfl) ?_
  have h_ := hB35.ref (j := 1) (k := 15) (b := List.length tX1_32) (x := (3, 20, [(14, 198), (13, 184), (12, 170), (11, 156), (10, 142), (9, 128), (8, 114), (7, 100), (6, 86), (5, 72), (4, 58), (3, 44), (2, 30), (1, 16), (0, 2)])) (by decide +kernel) (by decide +kernel)
  rw [← hB34.1] at h_
  have hB36 : ax_Bt G I L a (ax_used G + 5876) tX1_34 iX1_19 (ax_gR G34p (a + 1) 15 (some (ax_top G34))) I34p L34p := h_
  generalize ax_gR G34p (a + 1) 15 (some (ax_top G34)) = G36 at hB36 ⊢
  have hL36 : List.length tX1_34 = 226 := by decide +kernel
  have hT36 : ax_top G36 = a + 226 := by have h := hB36.1; rw [hL36] at h; exact h
  have hU36 : ax_used G36 = ax_used G + 5876 := hB36.2.1
  clear hL36
  clear h_ hq
  clear hB34 hT34 hU34 hB35 hT35 hU35
  refine x_iinc C (v := nI 16) (lv' := [(1, .int (nI 16)), (0, .ref a)]) (dk ddX1_init 24 rfl) rfl (by decide) (by decide) rfl ?_
  refine x_goto C (tgt := 25) (dk ddX1_init 25 rfl) (by decide) ?_
  refine x_iload_n C (dk ddX1_init 14 rfl) rfl ?_
  refine x_bipush C (v := nI 20) (dk ddX1_init 15 rfl) (by decide) ?_
  refine x_icmp_ge C (tgt := 50) (dk ddX1_init 16 rfl) (by decide) (fun h_ => absurd h_ (by decide)) (fun h_ => ?_)
  clear h_
  refine x_aload_n C (dk ddX1_init 17 rfl) rfl ?_
  refine x_getr C flX1_11 rfl (by have h := hT36; show a < ax_top G36; omega) (show ax_K G36 a = 8 + 1 from (hB36.2.2.1 0 (9, 0, [(0, 1)]) (by decide +kernel)).1) (show ax_R G36 a 0 = some (a + 1) from (hB36.2.2.1 0 (9, 0, [(0, 1)]) (by decide +kernel)).2.2 (0, 1) (by decide)) (dk ddX1_init 18 rfl) ?_
  refine x_iload_n C (dk ddX1_init 19 rfl) rfl ?_
  refine x_new C (ci := 7) (q0 := (RX7, TX7, 14)) (tyf := tyX7) rfl cw7 tyX7_ok dfX7 (ax_inT 1 100 (by decide +kernel)) (ax_inT 1 25 (by decide +kernel)) miX7 (by have h := hT36; show ax_top G36 + 1 ≤ ax_top G + 281; omega) (by have h := hU36; show ax_used G36 + 14 ≤ ax_used G + 7340; omega) (dk ddX1_init 20 rfl) ?_
  refine x_dup C (dk ddX1_init 21 rfl) rfl ?_
  refine x_callI C (As := []) (k_X7_init l D T o (d - 1) (ax_new G36 15 0 14) (ax_z I34p (ax_top G36) 0) (ax_z L34p (ax_top G36) 0) (ax_top G36) rfl (ax_new_K G36 15 0 14) (ax_new_N G36 15 0 14) (ax_z_eq _ _ _) (ax_z_eq _ _ _) (by omega)) mlX1_24 ⟨by show d - 1 + 1 ≤ d; omega, by show 40 * (d - 1 + 1) ≤ 40 * d; omega⟩ ⟨by have h := hT36; show ax_top G36 + 1 + 13 ≤ ax_top G + 281; omega, by have h := hU36; show ax_used G36 + 14 + 352 ≤ ax_used G + 7340; omega⟩ rfl (Nat.le_of_ble_eq_true rfl) (dk ddX1_init 22 rfl) ?_
  rintro v_ G36p I36p L36p ⟨rfl, hp⟩
  have hq := hB36.obj hp
  clear hp
  have hB37 : ax_Bt G I L a (ax_used G + 6242) tX1_35 iX1_20 G36p I36p L36p := hq
  have hL37 : List.length tX1_35 = 240 := by decide +kernel
  have hT37 : ax_top G36p = a + 240 := by have h := hB37.1; rw [hL37] at h; exact h
  have hU37 : ax_used G36p = ax_used G + 6242 := hB37.2.1
  clear hL37
  refine x_aast C (t := 3) (ci := 7) (n := 20) (i := 16) (r := (RX7, TX7, 14)) (by have h := hT37; show a + 1 < ax_top G36p; omega) (show ax_K G36p (a + 1) = 3 from (hB37.2.2.1 1 (3, 20, [(15, 212), (14, 198), (13, 184), (12, 170), (11, 156), (10, 142), (9, 128), (8, 114), (7, 100), (6, 86), (5, 72), (4, 58), (3, 44), (2, 30), (1, 16), (0, 2)]) (by decide +kernel)).1) (hB37.2.2.1 1 (3, 20, [(15, 212), (14, 198), (13, 184), (12, 170), (11, 156), (10, 142), (9, 128), (8, 114), (7, 100), (6, 86), (5, 72), (4, 58), (3, 44), (2, 30), (1, 16), (0, 2)]) (by decide +kernel)).2.1 (by decide) (by decide) rfl rfl (by have h := hT37; have h2 := hT36; omega) (by rw [hT36]; exact (hB37.2.2.1 226 (15, 0, [(13, 239), (12, 238), (11, 237), (10, 236), (9, 235), (8, 234), (7, 233), (5, 232), (4, 231), (3, 230), (2, 229), (1, 228), (0, 227)]) (by decide +kernel)).1) (by decide) (by decide) (dk ddX1_init 23 rfl) ?_
  have h_ := hB37.ref (j := 1) (k := 16) (b := List.length tX1_34) (x := (3, 20, [(15, 212), (14, 198), (13, 184), (12, 170), (11, 156), (10, 142), (9, 128), (8, 114), (7, 100), (6, 86), (5, 72), (4, 58), (3, 44), (2, 30), (1, 16), (0, 2)])) (by decide +kernel) (by decide +kernel)
  rw [← hB36.1] at h_
  have hB38 : ax_Bt G I L a (ax_used G + 6242) tX1_36 iX1_20 (ax_gR G36p (a + 1) 16 (some (ax_top G36))) I36p L36p := h_
  generalize ax_gR G36p (a + 1) 16 (some (ax_top G36)) = G38 at hB38 ⊢
  have hL38 : List.length tX1_36 = 240 := by decide +kernel
  have hT38 : ax_top G38 = a + 240 := by have h := hB38.1; rw [hL38] at h; exact h
  have hU38 : ax_used G38 = ax_used G + 6242 := hB38.2.1
  clear hL38
  clear h_ hq
  clear hB36 hT36 hU36 hB37 hT37 hU37
  refine x_iinc C (v := nI 17) (lv' := [(1, .int (nI 17)), (0, .ref a)]) (dk ddX1_init 24 rfl) rfl (by decide) (by decide) rfl ?_
  refine x_goto C (tgt := 25) (dk ddX1_init 25 rfl) (by decide) ?_
  refine x_iload_n C (dk ddX1_init 14 rfl) rfl ?_
  refine x_bipush C (v := nI 20) (dk ddX1_init 15 rfl) (by decide) ?_
  refine x_icmp_ge C (tgt := 50) (dk ddX1_init 16 rfl) (by decide) (fun h_ => absurd h_ (by decide)) (fun h_ => ?_)
  clear h_
  refine x_aload_n C (dk ddX1_init 17 rfl) rfl ?_
  refine x_getr C flX1_11 rfl (by have h := hT38; show a < ax_top G38; omega) (show ax_K G38 a = 8 + 1 from (hB38.2.2.1 0 (9, 0, [(0, 1)]) (by decide +kernel)).1) (show ax_R G38 a 0 = some (a + 1) from (hB38.2.2.1 0 (9, 0, [(0, 1)]) (by decide +kernel)).2.2 (0, 1) (by decide)) (dk ddX1_init 18 rfl) ?_
  refine x_iload_n C (dk ddX1_init 19 rfl) rfl ?_
  refine x_new C (ci := 7) (q0 := (RX7, TX7, 14)) (tyf := tyX7) rfl cw7 tyX7_ok dfX7 (ax_inT 1 100 (by decide +kernel)) (ax_inT 1 25 (by decide +kernel)) miX7 (by have h := hT38; show ax_top G38 + 1 ≤ ax_top G + 281; omega) (by have h := hU38; show ax_used G38 + 14 ≤ ax_used G + 7340; omega) (dk ddX1_init 20 rfl) ?_
  refine x_dup C (dk ddX1_init 21 rfl) rfl ?_
  refine x_callI C (As := []) (k_X7_init l D T o (d - 1) (ax_new G38 15 0 14) (ax_z I36p (ax_top G38) 0) (ax_z L36p (ax_top G38) 0) (ax_top G38) rfl (ax_new_K G38 15 0 14) (ax_new_N G38 15 0 14) (ax_z_eq _ _ _) (ax_z_eq _ _ _) (by omega)) mlX1_24 ⟨by show d - 1 + 1 ≤ d; omega, by show 40 * (d - 1 + 1) ≤ 40 * d; omega⟩ ⟨by have h := hT38; show ax_top G38 + 1 + 13 ≤ ax_top G + 281; omega, by have h := hU38; show ax_used G38 + 14 + 352 ≤ ax_used G + 7340; omega⟩ rfl (Nat.le_of_ble_eq_true rfl) (dk ddX1_init 22 rfl) ?_
  rintro v_ G38p I38p L38p ⟨rfl, hp⟩
  have hq := hB38.obj hp
  clear hp
  have hB39 : ax_Bt G I L a (ax_used G + 6608) tX1_37 iX1_21 G38p I38p L38p := hq
  have hL39 : List.length tX1_37 = 254 := by decide +kernel
  have hT39 : ax_top G38p = a + 254 := by have h := hB39.1; rw [hL39] at h; exact h
  have hU39 : ax_used G38p = ax_used G + 6608 := hB39.2.1
  clear hL39
  refine x_aast C (t := 3) (ci := 7) (n := 20) (i := 17) (r := (RX7, TX7, 14)) (by have h := hT39; show a + 1 < ax_top G38p; omega) (show ax_K G38p (a + 1) = 3 from (hB39.2.2.1 1 (3, 20, [(16, 226), (15, 212), (14, 198), (13, 184), (12, 170), (11, 156), (10, 142), (9, 128), (8, 114), (7, 100), (6, 86), (5, 72), (4, 58), (3, 44), (2, 30), (1, 16), (0, 2)]) (by decide +kernel)).1) (hB39.2.2.1 1 (3, 20, [(16, 226), (15, 212), (14, 198), (13, 184), (12, 170), (11, 156), (10, 142), (9, 128), (8, 114), (7, 100), (6, 86), (5, 72), (4, 58), (3, 44), (2, 30), (1, 16), (0, 2)]) (by decide +kernel)).2.1 (by decide) (by decide) rfl rfl (by have h := hT39; have h2 := hT38; omega) (by rw [hT38]; exact (hB39.2.2.1 240 (15, 0, [(13, 253), (12, 252), (11, 251), (10, 250), (9, 249), (8, 248), (7, 247), (5, 246), (4, 245), (3, 244), (2, 243), (1, 242), (0, 241)]) (by decide +kernel)).1) (by decide) (by decide) (dk ddX1_init 23 rfl) ?_
  have h_ := hB39.ref (j := 1) (k := 17) (b := List.length tX1_36) (x := (3, 20, [(16, 226), (15, 212), (14, 198), (13, 184), (12, 170), (11, 156), (10, 142), (9, 128), (8, 114), (7, 100), (6, 86), (5, 72), (4, 58), (3, 44), (2, 30), (1, 16), (0, 2)])) (by decide +kernel) (by decide +kernel)
  rw [← hB38.1] at h_
  have hB40 : ax_Bt G I L a (ax_used G + 6608) tX1_38 iX1_21 (ax_gR G38p (a + 1) 17 (some (ax_top G38))) I38p L38p := h_
  generalize ax_gR G38p (a + 1) 17 (some (ax_top G38)) = G40 at hB40 ⊢
  have hL40 : List.length tX1_38 = 254 := by decide +kernel
  have hT40 : ax_top G40 = a + 254 := by have h := hB40.1; rw [hL40] at h; exact h
  have hU40 : ax_used G40 = ax_used G + 6608 := hB40.2.1
  clear hL40
  clear h_ hq
  clear hB38 hT38 hU38 hB39 hT39 hU39
  refine x_iinc C (v := nI 18) (lv' := [(1, .int (nI 18)), (0, .ref a)]) (dk ddX1_init 24 rfl) rfl (by decide) (by decide) rfl ?_
  refine x_goto C (tgt := 25) (dk ddX1_init 25 rfl) (by decide) ?_
  refine x_iload_n C (dk ddX1_init 14 rfl) rfl ?_
  refine x_bipush C (v := nI 20) (dk ddX1_init 15 rfl) (by decide) ?_
  refine x_icmp_ge C (tgt := 50) (dk ddX1_init 16 rfl) (by decide) (fun h_ => absurd h_ (by decide)) (fun h_ => ?_)
  clear h_
  refine x_aload_n C (dk ddX1_init 17 rfl) rfl ?_
  refine x_getr C flX1_11 rfl (by have h := hT40; show a < ax_top G40; omega) (show ax_K G40 a = 8 + 1 from (hB40.2.2.1 0 (9, 0, [(0, 1)]) (by decide +kernel)).1) (show ax_R G40 a 0 = some (a + 1) from (hB40.2.2.1 0 (9, 0, [(0, 1)]) (by decide +kernel)).2.2 (0, 1) (by decide)) (dk ddX1_init 18 rfl) ?_
  refine x_iload_n C (dk ddX1_init 19 rfl) rfl ?_
  refine x_new C (ci := 7) (q0 := (RX7, TX7, 14)) (tyf := tyX7) rfl cw7 tyX7_ok dfX7 (ax_inT 1 100 (by decide +kernel)) (ax_inT 1 25 (by decide +kernel)) miX7 (by have h := hT40; show ax_top G40 + 1 ≤ ax_top G + 281; omega) (by have h := hU40; show ax_used G40 + 14 ≤ ax_used G + 7340; omega) (dk ddX1_init 20 rfl) ?_
  refine x_dup C (dk ddX1_init 21 rfl) rfl ?_
  refine x_callI C (As := []) (k_X7_init l D T o (d - 1) (ax_new G40 15 0 14) (ax_z I38p (ax_top G40) 0) (ax_z L38p (ax_top G40) 0) (ax_top G40) rfl (ax_new_K G40 15 0 14) (ax_new_N G40 15 0 14) (ax_z_eq _ _ _) (ax_z_eq _ _ _) (by omega)) mlX1_24 ⟨by show d - 1 + 1 ≤ d; omega, by show 40 * (d - 1 + 1) ≤ 40 * d; omega⟩ ⟨by have h := hT40; show ax_top G40 + 1 + 13 ≤ ax_top G + 281; omega, by have h := hU40; show ax_used G40 + 14 + 352 ≤ ax_used G + 7340; omega⟩ rfl (Nat.le_of_ble_eq_true rfl) (dk ddX1_init 22 rfl) ?_
  rintro v_ G40p I40p L40p ⟨rfl, hp⟩
  have hq := hB40.obj hp
  clear hp
  have hB41 : ax_Bt G I L a (ax_used G + 6974) tX1_39 iX1_22 G40p I40p L40p := hq
  have hL41 : List.length tX1_39 = 268 := by decide +kernel
  have hT41 : ax_top G40p = a + 268 := by have h := hB41.1; rw [hL41] at h; exact h
  have hU41 : ax_used G40p = ax_used G + 6974 := hB41.2.1
  clear hL41
  refine x_aast C (t := 3) (ci := 7) (n := 20) (i := 18) (r := (RX7, TX7, 14)) (by have h := hT41; show a + 1 < ax_top G40p; omega) (show ax_K G40p (a + 1) = 3 from (hB41.2.2.1 1 (3, 20, [(17, 240), (16, 226), (15, 212), (14, 198), (13, 184), (12, 170), (11, 156), (10, 142), (9, 128), (8, 114), (7, 100), (6, 86), (5, 72), (4, 58), (3, 44), (2, 30), (1, 16), (0, 2)]) (by decide +kernel)).1) (hB41.2.2.1 1 (3, 20, [(17, 240), (16, 226), (15, 212), (14, 198), (13, 184), (12, 170), (11, 156), (10, 142), (9, 128), (8, 114), (7, 100), (6, 86), (5, 72), (4, 58), (3, 44), (2, 30), (1, 16), (0, 2)]) (by decide +kernel)).2.1 (by decide) (by decide) rfl rfl (by have h := hT41; have h2 := hT40; omega) (by rw [hT40]; exact (hB41.2.2.1 254 (15, 0, [(13, 267), (12, 266), (11, 265), (10, 264), (9, 263), (8, 262), (7, 261), (5, 260), (4, 259), (3, 258), (2, 257), (1, 256), (0, 255)]) (by decide +kernel)).1) (by decide) (by decide) (dk ddX1_init 23 rfl) ?_
  have h_ := hB41.ref (j := 1) (k := 18) (b := List.length tX1_38) (x := (3, 20, [(17, 240), (16, 226), (15, 212), (14, 198), (13, 184), (12, 170), (11, 156), (10, 142), (9, 128), (8, 114), (7, 100), (6, 86), (5, 72), (4, 58), (3, 44), (2, 30), (1, 16), (0, 2)])) (by decide +kernel) (by decide +kernel)
  rw [← hB40.1] at h_
  have hB42 : ax_Bt G I L a (ax_used G + 6974) tX1_40 iX1_22 (ax_gR G40p (a + 1) 18 (some (ax_top G40))) I40p L40p := h_
  generalize ax_gR G40p (a + 1) 18 (some (ax_top G40)) = G42 at hB42 ⊢
  have hL42 : List.length tX1_40 = 268 := by decide +kernel
  have hT42 : ax_top G42 = a + 268 := by have h := hB42.1; rw [hL42] at h; exact h
  have hU42 : ax_used G42 = ax_used G + 6974 := hB42.2.1
  clear hL42
  clear h_ hq
  clear hB40 hT40 hU40 hB41 hT41 hU41
  refine x_iinc C (v := nI 19) (lv' := [(1, .int (nI 19)), (0, .ref a)]) (dk ddX1_init 24 rfl) rfl (by decide) (by decide) rfl ?_
  refine x_goto C (tgt := 25) (dk ddX1_init 25 rfl) (by decide) ?_
  refine x_iload_n C (dk ddX1_init 14 rfl) rfl ?_
  refine x_bipush C (v := nI 20) (dk ddX1_init 15 rfl) (by decide) ?_
  refine x_icmp_ge C (tgt := 50) (dk ddX1_init 16 rfl) (by decide) (fun h_ => absurd h_ (by decide)) (fun h_ => ?_)
  clear h_
  refine x_aload_n C (dk ddX1_init 17 rfl) rfl ?_
  refine x_getr C flX1_11 rfl (by have h := hT42; show a < ax_top G42; omega) (show ax_K G42 a = 8 + 1 from (hB42.2.2.1 0 (9, 0, [(0, 1)]) (by decide +kernel)).1) (show ax_R G42 a 0 = some (a + 1) from (hB42.2.2.1 0 (9, 0, [(0, 1)]) (by decide +kernel)).2.2 (0, 1) (by decide)) (dk ddX1_init 18 rfl) ?_
  refine x_iload_n C (dk ddX1_init 19 rfl) rfl ?_
  refine x_new C (ci := 7) (q0 := (RX7, TX7, 14)) (tyf := tyX7) rfl cw7 tyX7_ok dfX7 (ax_inT 1 100 (by decide +kernel)) (ax_inT 1 25 (by decide +kernel)) miX7 (by have h := hT42; show ax_top G42 + 1 ≤ ax_top G + 281; omega) (by have h := hU42; show ax_used G42 + 14 ≤ ax_used G + 7340; omega) (dk ddX1_init 20 rfl) ?_
  refine x_dup C (dk ddX1_init 21 rfl) rfl ?_
  refine x_callI C (As := []) (k_X7_init l D T o (d - 1) (ax_new G42 15 0 14) (ax_z I40p (ax_top G42) 0) (ax_z L40p (ax_top G42) 0) (ax_top G42) rfl (ax_new_K G42 15 0 14) (ax_new_N G42 15 0 14) (ax_z_eq _ _ _) (ax_z_eq _ _ _) (by omega)) mlX1_24 ⟨by show d - 1 + 1 ≤ d; omega, by show 40 * (d - 1 + 1) ≤ 40 * d; omega⟩ ⟨by have h := hT42; show ax_top G42 + 1 + 13 ≤ ax_top G + 281; omega, by have h := hU42; show ax_used G42 + 14 + 352 ≤ ax_used G + 7340; omega⟩ rfl (Nat.le_of_ble_eq_true rfl) (dk ddX1_init 22 rfl) ?_
  rintro v_ G42p I42p L42p ⟨rfl, hp⟩
  have hq := hB42.obj hp
  clear hp
  have hB43 : ax_Bt G I L a (ax_used G + 7340) tX1_41 iX1_23 G42p I42p L42p := hq
  have hL43 : List.length tX1_41 = 282 := by decide +kernel
  have hT43 : ax_top G42p = a + 282 := by have h := hB43.1; rw [hL43] at h; exact h
  have hU43 : ax_used G42p = ax_used G + 7340 := hB43.2.1
  clear hL43
  refine x_aast C (t := 3) (ci := 7) (n := 20) (i := 19) (r := (RX7, TX7, 14)) (by have h := hT43; show a + 1 < ax_top G42p; omega) (show ax_K G42p (a + 1) = 3 from (hB43.2.2.1 1 (3, 20, [(18, 254), (17, 240), (16, 226), (15, 212), (14, 198), (13, 184), (12, 170), (11, 156), (10, 142), (9, 128), (8, 114), (7, 100), (6, 86), (5, 72), (4, 58), (3, 44), (2, 30), (1, 16), (0, 2)]) (by decide +kernel)).1) (hB43.2.2.1 1 (3, 20, [(18, 254), (17, 240), (16, 226), (15, 212), (14, 198), (13, 184), (12, 170), (11, 156), (10, 142), (9, 128), (8, 114), (7, 100), (6, 86), (5, 72), (4, 58), (3, 44), (2, 30), (1, 16), (0, 2)]) (by decide +kernel)).2.1 (by decide) (by decide) rfl rfl (by have h := hT43; have h2 := hT42; omega) (by rw [hT42]; exact (hB43.2.2.1 268 (15, 0, [(13, 281), (12, 280), (11, 279), (10, 278), (9, 277), (8, 276), (7, 275), (5, 274), (4, 273), (3, 272), (2, 271), (1, 270), (0, 269)]) (by decide +kernel)).1) (by decide) (by decide) (dk ddX1_init 23 rfl) ?_
  have h_ := hB43.ref (j := 1) (k := 19) (b := List.length tX1_40) (x := (3, 20, [(18, 254), (17, 240), (16, 226), (15, 212), (14, 198), (13, 184), (12, 170), (11, 156), (10, 142), (9, 128), (8, 114), (7, 100), (6, 86), (5, 72), (4, 58), (3, 44), (2, 30), (1, 16), (0, 2)])) (by decide +kernel) (by decide +kernel)
  rw [← hB42.1] at h_
  have hB44 : ax_Bt G I L a (ax_used G + 7340) tX1_42 iX1_23 (ax_gR G42p (a + 1) 19 (some (ax_top G42))) I42p L42p := h_
  generalize ax_gR G42p (a + 1) 19 (some (ax_top G42)) = G44 at hB44 ⊢
  have hL44 : List.length tX1_42 = 282 := by decide +kernel
  have hT44 : ax_top G44 = a + 282 := by have h := hB44.1; rw [hL44] at h; exact h
  have hU44 : ax_used G44 = ax_used G + 7340 := hB44.2.1
  clear hL44
  clear h_ hq
  clear hB42 hT42 hU42 hB43 hT43 hU43
  refine x_iinc C (v := nI 20) (lv' := [(1, .int (nI 20)), (0, .ref a)]) (dk ddX1_init 24 rfl) rfl (by decide) (by decide) rfl ?_
  refine x_goto C (tgt := 25) (dk ddX1_init 25 rfl) (by decide) ?_
  refine x_iload_n C (dk ddX1_init 14 rfl) rfl ?_
  refine x_bipush C (v := nI 20) (dk ddX1_init 15 rfl) (by decide) ?_
  refine x_icmp_ge C (tgt := 50) (dk ddX1_init 16 rfl) (by decide) (fun h_ => ?_) (fun h_ => absurd (by decide) h_)
  clear h_
  exact x_vret C rfl ⟨rfl, hB44⟩ (by have h := hT44; show ax_top G44 = ax_top G + 281; omega) hU44 (dk ddX1_init 26 rfl)

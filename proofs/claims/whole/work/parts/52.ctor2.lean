/-! ===== constructors of objects within objects ===== -/
theorem ax_Bt.obj {G0 G : ax_G} {I0 I : ax_I} {L0 L : ax_L} {a us : Nat} {T : ax_Tb} {C : List (Nat → Int32)} {k nf us2 : Nat} {T2 : ax_Tb} {C2 : List (Nat → Int32)} {G1 : ax_G} {I1 : ax_I} {L1 : ax_L} (h : ax_Bt G0 I0 L0 a us T C G I L)
    (h2 : ax_Bt (ax_new G k 0 nf) (ax_z I (ax_top G) 0) (ax_z L (ax_top G) 0) (ax_top G) (ax_used (ax_new G k 0 nf) + us2) T2 C2 G1 I1 L1) : ax_Bt G0 I0 L0 a (us + nf + us2) (T ++ ax_shf T.length T2) (C ++ C2) G1 I1 L1 := by
  have hn := h.new (k := k) (n := 0) (sl := nf)
  have e := h.1
  have eu := h.2.1
  have hc := h.2.2.2.2.2.1
  rw [show ax_used (ax_new G k 0 nf) = us + nf by rw [ax_new_used, eu]] at h2
  generalize ax_new G k 0 nf = Gn at hn h2
  generalize ax_z I (ax_top G) 0 = In at hn h2
  generalize ax_z L (ax_top G) 0 = Ln at hn h2
  rw [e] at h2
  have h3 := hn.sub (p := T.length) (by rw [List.length_append]; rfl) h2
  rw [List.take_left] at h3
  rw [show (C ++ [fun _ : Nat => (0 : Int32)]).take T.length = C by rw [← hc]; exact List.take_left] at h3
  exact h3
theorem dfX0 : ∀ k, k < 7 → defaultValue (tyX0 k) = bif ax_ty 0 k then .null else .int 0 := by
  intro k hk
  revert k
  decide +kernel
theorem dfX1 : ∀ k, k < 3 → defaultValue (tyX1 k) = bif ax_ty 1 k then .null else .int 0 := by
  intro k hk
  revert k
  decide +kernel
theorem dfX2 : ∀ k, k < 3 → defaultValue (tyX2 k) = bif ax_ty 2 k then .null else .int 0 := by
  intro k hk
  revert k
  decide +kernel
theorem dfX3 : ∀ k, k < 8 → defaultValue (tyX3 k) = bif ax_ty 3 k then .null else .int 0 := by
  intro k hk
  revert k
  decide +kernel
theorem dfX4 : ∀ k, k < 2 → defaultValue (tyX4 k) = bif ax_ty 4 k then .null else .int 0 := by
  intro k hk
  revert k
  decide +kernel
theorem dfX5 : ∀ k, k < 3 → defaultValue (tyX5 k) = bif ax_ty 5 k then .null else .int 0 := by
  intro k hk
  revert k
  decide +kernel
theorem dfX6 : ∀ k, k < 4 → defaultValue (tyX6 k) = bif ax_ty 6 k then .null else .int 0 := by
  intro k hk
  revert k
  decide +kernel
theorem dfX7 : ∀ k, k < 14 → defaultValue (tyX7 k) = bif ax_ty 7 k then .null else .int 0 := by
  intro k hk
  revert k
  decide +kernel
theorem dfX8 : ∀ k, k < 4 → defaultValue (tyX8 k) = bif ax_ty 8 k then .null else .int 0 := by
  intro k hk
  revert k
  decide +kernel
theorem dfX9 : ∀ k, k < 10 → defaultValue (tyX9 k) = bif ax_ty 9 k then .null else .int 0 := by
  intro k hk
  revert k
  decide +kernel
def tX2_0 : ax_Tb := [(10, 0, [])]
def iX2_0 : List (Nat → Int32) := [fun _ => 0]
def tX2_1 : ax_Tb := ax_mT tX2_0 6 6 6
def iX2_1 : List (Nat → Int32) := ax_mC iX2_0 6
def tX2_2 : ax_Tb := ax_addr tX2_1 0 0 (List.length tX2_0)
def tX2_3 : ax_Tb := tX2_2 ++ [(2, 6, [])]
def iX2_2 : List (Nat → Int32) := iX2_1 ++ [fun _ => 0]
def tX2_4 : ax_Tb := ax_addr tX2_3 0 1 (List.length tX2_2)
def iX2_3 : List (Nat → Int32) := List.modify iX2_2 0 (fun f i => if i = 2 then nI 0 else f i)
abbrev tX2 : ax_Tb := tX2_4
abbrev iX2 : List (Nat → Int32) := iX2_3
set_option maxHeartbeats 4000000 in
set_option maxRecDepth 20000 in
/-- Lattice -/
theorem k_X2_init (l : Launch) (D : va_G) (T : Nat → ClassId) (o d : Nat) (G : ax_G) (I : ax_I) (L : ax_L) (a : Nat) (ht : ax_top G = a + 1) (hK : ax_K G a = 8 + 2) (hN : ax_N G a = 0) (hI : I a = fun _ => 0) (hL : L a = fun _ => 0) (hd : 2 ≤ d) : ax_Con l D T o yX2_init cX2_init 1 none d 8 48 [.ref a] G I L (fun v G' I' L' => v = none ∧ ax_Bt G I L a (ax_used G + 48) tX2 iX2 G' I' L') := by
  refine ax_enter (by decide +kernel) (Nat.le_of_ble_eq_true rfl) ?_
  intro p_ e_ s_ m_ args_ below_ meth_ c_ C _
  refine x_lvs (lv' := [(0, .ref a)]) rfl ?_
  have hB0 : ax_Bt G I L a (ax_used G + 0) tX2_0 iX2_0 G I L := ax_Bt.start ht hK hN hI hL
  have hL0 : List.length tX2_0 = 1 := by decide +kernel
  have hT0 : ax_top G = a + 1 := by have h := hB0.1; rw [hL0] at h; exact h
  have hU0 : ax_used G = ax_used G + 0 := hB0.2.1
  clear hL0
  refine x_aload_n C (dk ddX2_init 0 rfl) rfl ?_
  refine x_obj C (ax_inT 1 197 (by decide +kernel)) (ax_inT 1 22 (by decide +kernel)) (ax_inC 1 23 rfl) ⟨by show 1 ≤ d; omega, by show 40 ≤ 40 * d; omega⟩ (Nat.le_of_ble_eq_true rfl) (dk ddX2_init 1 rfl) ?_
  refine x_aload_n C (dk ddX2_init 2 rfl) rfl ?_
  refine x_bipush C (v := nI 6) (dk ddX2_init 3 rfl) (by decide) ?_
  refine x_bipush C (v := nI 6) (dk ddX2_init 4 rfl) (by decide) ?_
  refine x_mnaM C (N := 6) (M := 6) (ax_inT 1 198 (by decide +kernel)) (ax_inT 1 199 (by decide +kernel)) (ax_inT 1 147 (by decide +kernel)) (by decide) (by decide) (by have h := hT0; show ax_top G + (1 + 6) ≤ ax_top G + 8; omega) (by have h := hU0; show ax_used G + (6 + 6 * 6) ≤ ax_used G + 48; omega) (dk ddX2_init 5 rfl) ?_
  have hN_ := hB0.mna 6 6 6
  have hB1 : ax_Bt G I L a (ax_used G + 42) tX2_1 iX2_1 (ax_mG G 6 6 6) (ax_mZ I G 6 6 0 6) (ax_mZ L G 6 6 0 6) := hN_
  generalize ax_mG G 6 6 6 = G1 at hB1 ⊢
  generalize ax_mZ I G 6 6 0 6 = I1 at hB1 ⊢
  generalize ax_mZ L G 6 6 0 6 = L1 at hB1 ⊢
  have hL1 : List.length tX2_1 = 8 := by decide +kernel
  have hT1 : ax_top G1 = a + 8 := by have h := hB1.1; rw [hL1] at h; exact h
  have hU1 : ax_used G1 = ax_used G + 42 := hB1.2.1
  clear hL1
  clear hN_
  refine x_putrF C flX2_11 fw2 rfl rfl rfl rfl (by have h := hT1; show a < ax_top G1; omega) (show ax_K G1 a = 8 + 2 from (hB1.2.2.1 0 (10, 0, []) (by decide +kernel)).1) (fun _ => rfl) (fun _ => rfl) (dk ddX2_init 6 rfl) ?_
  have h_ := hB1.ref (j := 0) (k := 0) (b := List.length tX2_0) (x := (10, 0, [])) (by decide +kernel) (by decide +kernel)
  rw [← hB0.1] at h_
  have hB2 : ax_Bt G I L a (ax_used G + 42) tX2_2 iX2_1 (ax_gR G1 a 0 (some (ax_top G))) I1 L1 := h_
  generalize ax_gR G1 a 0 (some (ax_top G)) = G2 at hB2 ⊢
  have hL2 : List.length tX2_2 = 8 := by decide +kernel
  have hT2 : ax_top G2 = a + 8 := by have h := hB2.1; rw [hL2] at h; exact h
  have hU2 : ax_used G2 = ax_used G + 42 := hB2.2.1
  clear hL2
  clear h_
  clear hB0 hT0 hU0 hB1 hT1 hU1
  refine x_aload_n C (dk ddX2_init 7 rfl) rfl ?_
  refine x_bipush C (v := nI 6) (dk ddX2_init 8 rfl) (by decide) ?_
  refine x_nal C (by decide) (by have h := hT2; show ax_top G2 + 1 ≤ ax_top G + 8; omega) (by have h := hU2; show ax_used G2 + 6 ≤ ax_used G + 48; omega) (dk ddX2_init 9 rfl) ?_
  have hN_ := hB2.new (k := 2) (n := 6) (sl := 6)
  have hB3 : ax_Bt G I L a (ax_used G + 48) tX2_3 iX2_2 (ax_new G2 2 6 6) (ax_z I1 (ax_top G2) 0) (ax_z L1 (ax_top G2) 0) := hN_
  generalize ax_new G2 2 6 6 = G3 at hB3 ⊢
  generalize ax_z I1 (ax_top G2) 0 = I3 at hB3 ⊢
  generalize ax_z L1 (ax_top G2) 0 = L3 at hB3 ⊢
  have hL3 : List.length tX2_3 = 9 := by decide +kernel
  have hT3 : ax_top G3 = a + 9 := by have h := hB3.1; rw [hL3] at h; exact h
  have hU3 : ax_used G3 = ax_used G + 48 := hB3.2.1
  clear hL3
  clear hN_
  refine x_putrF C flX2_16 fw2 rfl rfl rfl rfl (by have h := hT3; show a < ax_top G3; omega) (show ax_K G3 a = 8 + 2 from (hB3.2.2.1 0 (10, 0, [(0, 1)]) (by decide +kernel)).1) (fun _ => rfl) (fun _ => rfl) (dk ddX2_init 10 rfl) ?_
  have h_ := hB3.ref (j := 0) (k := 1) (b := List.length tX2_2) (x := (10, 0, [(0, 1)])) (by decide +kernel) (by decide +kernel)
  rw [← hB2.1] at h_
  have hB4 : ax_Bt G I L a (ax_used G + 48) tX2_4 iX2_2 (ax_gR G3 a 1 (some (ax_top G2))) I3 L3 := h_
  generalize ax_gR G3 a 1 (some (ax_top G2)) = G4 at hB4 ⊢
  have hL4 : List.length tX2_4 = 9 := by decide +kernel
  have hT4 : ax_top G4 = a + 9 := by have h := hB4.1; rw [hL4] at h; exact h
  have hU4 : ax_used G4 = ax_used G + 48 := hB4.2.1
  clear hL4
  clear h_
  clear hB2 hT2 hU2 hB3 hT3 hU3
  refine x_aload_n C (dk ddX2_init 11 rfl) rfl ?_
  refine x_iconst C (v := nI 0) (dk ddX2_init 12 rfl) (by decide) ?_
  refine x_puti C flX2_20 fw2 rfl rfl (by have h := hT4; show a < ax_top G4; omega) (show ax_K G4 a = 8 + 2 from (hB4.2.2.1 0 (10, 0, [(1, 8), (0, 1)]) (by decide +kernel)).1) rfl rfl (dk ddX2_init 13 rfl) ?_
  have hB5 : ax_Bt G I L a (ax_used G + 48) tX2_4 iX2_3 G4 (ax_u I3 a 2 (nI 0)) L3 := hB4.int (j := 0) (k := 2) (v := (nI 0)) (by decide +kernel)
  generalize ax_u I3 a 2 (nI 0) = I5 at hB5 ⊢
  have hL5 : List.length tX2_4 = 9 := by decide +kernel
  have hT5 : ax_top G4 = a + 9 := by have h := hB5.1; rw [hL5] at h; exact h
  have hU5 : ax_used G4 = ax_used G + 48 := hB5.2.1
  clear hL5
  exact x_vret C rfl ⟨rfl, hB5⟩ (by have h := hT5; show ax_top G4 = ax_top G + 8; omega) hU5 (dk ddX2_init 14 rfl)
def tX3_0 : ax_Tb := [(11, 0, [])]
def iX3_0 : List (Nat → Int32) := [fun _ => 0]
def tX3_1 : ax_Tb := tX3_0 ++ ax_shf (List.length tX3_0) tX2
def iX3_1 : List (Nat → Int32) := iX3_0 ++ iX2
def tX3_2 : ax_Tb := ax_addr tX3_1 0 0 (List.length tX3_0)
def tX3_3 : ax_Tb := tX3_2 ++ ax_shf (List.length tX3_2) tX2
def iX3_2 : List (Nat → Int32) := iX3_1 ++ iX2
def tX3_4 : ax_Tb := ax_addr tX3_3 0 1 (List.length tX3_2)
def tX3_5 : ax_Tb := tX3_4 ++ ax_shf (List.length tX3_4) tX2
def iX3_3 : List (Nat → Int32) := iX3_2 ++ iX2
def tX3_6 : ax_Tb := ax_addr tX3_5 0 2 (List.length tX3_4)
def tX3_7 : ax_Tb := tX3_6 ++ ax_shf (List.length tX3_6) tX2
def iX3_4 : List (Nat → Int32) := iX3_3 ++ iX2
def tX3_8 : ax_Tb := ax_addr tX3_7 0 3 (List.length tX3_6)
def tX3_9 : ax_Tb := tX3_8 ++ ax_shf (List.length tX3_8) tX2
def iX3_5 : List (Nat → Int32) := iX3_4 ++ iX2
def tX3_10 : ax_Tb := ax_addr tX3_9 0 4 (List.length tX3_8)
def tX3_11 : ax_Tb := tX3_10 ++ ax_shf (List.length tX3_10) tX2
def iX3_6 : List (Nat → Int32) := iX3_5 ++ iX2
def tX3_12 : ax_Tb := ax_addr tX3_11 0 5 (List.length tX3_10)
def tX3_13 : ax_Tb := tX3_12 ++ [(2, 6, [])]
def iX3_7 : List (Nat → Int32) := iX3_6 ++ [fun _ => 0]
def tX3_14 : ax_Tb := ax_addr tX3_13 0 6 (List.length tX3_12)
def tX3_15 : ax_Tb := tX3_14 ++ [(2, 6, [])]
def iX3_8 : List (Nat → Int32) := iX3_7 ++ [fun _ => 0]
def tX3_16 : ax_Tb := ax_addr tX3_15 0 7 (List.length tX3_14)
abbrev tX3 : ax_Tb := tX3_16
abbrev iX3 : List (Nat → Int32) := iX3_8
set_option maxHeartbeats 4000000 in
set_option maxRecDepth 20000 in
/-- MapWork -/
theorem k_X3_init (l : Launch) (D : va_G) (T : Nat → ClassId) (o d : Nat) (G : ax_G) (I : ax_I) (L : ax_L) (a : Nat) (ht : ax_top G = a + 1) (hK : ax_K G a = 8 + 3) (hN : ax_N G a = 0) (hI : I a = fun _ => 0) (hL : L a = fun _ => 0) (hd : 3 ≤ d) : ax_Con l D T o yX3_init cX3_init 1 none d 56 318 [.ref a] G I L (fun v G' I' L' => v = none ∧ ax_Bt G I L a (ax_used G + 318) tX3 iX3 G' I' L') := by
  refine ax_enter (by decide +kernel) (Nat.le_of_ble_eq_true rfl) ?_
  intro p_ e_ s_ m_ args_ below_ meth_ c_ C _
  refine x_lvs (lv' := [(0, .ref a)]) rfl ?_
  have hB0 : ax_Bt G I L a (ax_used G + 0) tX3_0 iX3_0 G I L := ax_Bt.start ht hK hN hI hL
  have hL0 : List.length tX3_0 = 1 := by decide +kernel
  have hT0 : ax_top G = a + 1 := by have h := hB0.1; rw [hL0] at h; exact h
  have hU0 : ax_used G = ax_used G + 0 := hB0.2.1
  clear hL0
  refine x_aload_n C (dk ddX3_init 0 rfl) rfl ?_
  refine x_obj C (ax_inT 1 191 (by decide +kernel)) (ax_inT 1 22 (by decide +kernel)) (ax_inC 1 23 rfl) ⟨by show 1 ≤ d; omega, by show 40 ≤ 40 * d; omega⟩ (Nat.le_of_ble_eq_true rfl) (dk ddX3_init 1 rfl) ?_
  refine x_aload_n C (dk ddX3_init 2 rfl) rfl ?_
  refine x_new C (ci := 2) (q0 := (RX2, TX2, 3)) (tyf := tyX2) rfl cw2 tyX2_ok dfX2 (ax_inT 1 192 (by decide +kernel)) (ax_inT 1 193 (by decide +kernel)) miX2 (by have h := hT0; show ax_top G + 1 ≤ ax_top G + 56; omega) (by have h := hU0; show ax_used G + 3 ≤ ax_used G + 318; omega) (dk ddX3_init 3 rfl) ?_
  refine x_dup C (dk ddX3_init 4 rfl) rfl ?_
  refine x_callI C (As := []) (k_X2_init l D T o (d - 1) (ax_new G 10 0 3) (ax_z I (ax_top G) 0) (ax_z L (ax_top G) 0) (ax_top G) rfl (ax_new_K G 10 0 3) (ax_new_N G 10 0 3) (ax_z_eq _ _ _) (ax_z_eq _ _ _) (by omega)) mlX3_11 ⟨by show d - 1 + 1 ≤ d; omega, by show 40 * (d - 1 + 1) ≤ 40 * d; omega⟩ ⟨by have h := hT0; show ax_top G + 1 + 8 ≤ ax_top G + 56; omega, by have h := hU0; show ax_used G + 3 + 48 ≤ ax_used G + 318; omega⟩ rfl (Nat.le_of_ble_eq_true rfl) (dk ddX3_init 5 rfl) ?_
  rintro v_ G0p I0p L0p ⟨rfl, hp⟩
  have hq := hB0.obj hp
  clear hp
  have hB1 : ax_Bt G I L a (ax_used G + 51) tX3_1 iX3_1 G0p I0p L0p := hq
  have hL1 : List.length tX3_1 = 10 := by decide +kernel
  have hT1 : ax_top G0p = a + 10 := by have h := hB1.1; rw [hL1] at h; exact h
  have hU1 : ax_used G0p = ax_used G + 51 := hB1.2.1
  clear hL1
  refine x_putrF C flX3_12 fw3 rfl rfl rfl rfl (by have h := hT1; show a < ax_top G0p; omega) (show ax_K G0p a = 8 + 3 from (hB1.2.2.1 0 (11, 0, []) (by decide +kernel)).1) (fun _ => rfl) (fun _ => rfl) (dk ddX3_init 6 rfl) ?_
  have h_ := hB1.ref (j := 0) (k := 0) (b := List.length tX3_0) (x := (11, 0, [])) (by decide +kernel) (by decide +kernel)
  rw [← hB0.1] at h_
  have hB2 : ax_Bt G I L a (ax_used G + 51) tX3_2 iX3_1 (ax_gR G0p a 0 (some (ax_top G))) I0p L0p := h_
  generalize ax_gR G0p a 0 (some (ax_top G)) = G2 at hB2 ⊢
  have hL2 : List.length tX3_2 = 10 := by decide +kernel
  have hT2 : ax_top G2 = a + 10 := by have h := hB2.1; rw [hL2] at h; exact h
  have hU2 : ax_used G2 = ax_used G + 51 := hB2.2.1
  clear hL2
  clear h_ hq
  clear hB0 hT0 hU0 hB1 hT1 hU1
  refine x_aload_n C (dk ddX3_init 7 rfl) rfl ?_
  refine x_new C (ci := 2) (q0 := (RX2, TX2, 3)) (tyf := tyX2) rfl cw2 tyX2_ok dfX2 (ax_inT 1 192 (by decide +kernel)) (ax_inT 1 193 (by decide +kernel)) miX2 (by have h := hT2; show ax_top G2 + 1 ≤ ax_top G + 56; omega) (by have h := hU2; show ax_used G2 + 3 ≤ ax_used G + 318; omega) (dk ddX3_init 8 rfl) ?_
  refine x_dup C (dk ddX3_init 9 rfl) rfl ?_
  refine x_callI C (As := []) (k_X2_init l D T o (d - 1) (ax_new G2 10 0 3) (ax_z I0p (ax_top G2) 0) (ax_z L0p (ax_top G2) 0) (ax_top G2) rfl (ax_new_K G2 10 0 3) (ax_new_N G2 10 0 3) (ax_z_eq _ _ _) (ax_z_eq _ _ _) (by omega)) mlX3_11 ⟨by show d - 1 + 1 ≤ d; omega, by show 40 * (d - 1 + 1) ≤ 40 * d; omega⟩ ⟨by have h := hT2; show ax_top G2 + 1 + 8 ≤ ax_top G + 56; omega, by have h := hU2; show ax_used G2 + 3 + 48 ≤ ax_used G + 318; omega⟩ rfl (Nat.le_of_ble_eq_true rfl) (dk ddX3_init 10 rfl) ?_
  rintro v_ G2p I2p L2p ⟨rfl, hp⟩
  have hq := hB2.obj hp
  clear hp
  have hB3 : ax_Bt G I L a (ax_used G + 102) tX3_3 iX3_2 G2p I2p L2p := hq
  have hL3 : List.length tX3_3 = 19 := by decide +kernel
  have hT3 : ax_top G2p = a + 19 := by have h := hB3.1; rw [hL3] at h; exact h
  have hU3 : ax_used G2p = ax_used G + 102 := hB3.2.1
  clear hL3
  refine x_putrF C flX3_18 fw3 rfl rfl rfl rfl (by have h := hT3; show a < ax_top G2p; omega) (show ax_K G2p a = 8 + 3 from (hB3.2.2.1 0 (11, 0, [(0, 1)]) (by decide +kernel)).1) (fun _ => rfl) (fun _ => rfl) (dk ddX3_init 11 rfl) ?_
  have h_ := hB3.ref (j := 0) (k := 1) (b := List.length tX3_2) (x := (11, 0, [(0, 1)])) (by decide +kernel) (by decide +kernel)
  rw [← hB2.1] at h_
  have hB4 : ax_Bt G I L a (ax_used G + 102) tX3_4 iX3_2 (ax_gR G2p a 1 (some (ax_top G2))) I2p L2p := h_
  generalize ax_gR G2p a 1 (some (ax_top G2)) = G4 at hB4 ⊢
  have hL4 : List.length tX3_4 = 19 := by decide +kernel
  have hT4 : ax_top G4 = a + 19 := by have h := hB4.1; rw [hL4] at h; exact h
  have hU4 : ax_used G4 = ax_used G + 102 := hB4.2.1
  clear hL4
  clear h_ hq
  clear hB2 hT2 hU2 hB3 hT3 hU3
  refine x_aload_n C (dk ddX3_init 12 rfl) rfl ?_
  refine x_new C (ci := 2) (q0 := (RX2, TX2, 3)) (tyf := tyX2) rfl cw2 tyX2_ok dfX2 (ax_inT 1 192 (by decide +kernel)) (ax_inT 1 193 (by decide +kernel)) miX2 (by have h := hT4; show ax_top G4 + 1 ≤ ax_top G + 56; omega) (by have h := hU4; show ax_used G4 + 3 ≤ ax_used G + 318; omega) (dk ddX3_init 13 rfl) ?_
  refine x_dup C (dk ddX3_init 14 rfl) rfl ?_
  refine x_callI C (As := []) (k_X2_init l D T o (d - 1) (ax_new G4 10 0 3) (ax_z I2p (ax_top G4) 0) (ax_z L2p (ax_top G4) 0) (ax_top G4) rfl (ax_new_K G4 10 0 3) (ax_new_N G4 10 0 3) (ax_z_eq _ _ _) (ax_z_eq _ _ _) (by omega)) mlX3_11 ⟨by show d - 1 + 1 ≤ d; omega, by show 40 * (d - 1 + 1) ≤ 40 * d; omega⟩ ⟨by have h := hT4; show ax_top G4 + 1 + 8 ≤ ax_top G + 56; omega, by have h := hU4; show ax_used G4 + 3 + 48 ≤ ax_used G + 318; omega⟩ rfl (Nat.le_of_ble_eq_true rfl) (dk ddX3_init 15 rfl) ?_
  rintro v_ G4p I4p L4p ⟨rfl, hp⟩
  have hq := hB4.obj hp
  clear hp
  have hB5 : ax_Bt G I L a (ax_used G + 153) tX3_5 iX3_3 G4p I4p L4p := hq
  have hL5 : List.length tX3_5 = 28 := by decide +kernel
  have hT5 : ax_top G4p = a + 28 := by have h := hB5.1; rw [hL5] at h; exact h
  have hU5 : ax_used G4p = ax_used G + 153 := hB5.2.1
  clear hL5
  refine x_putrF C flX3_21 fw3 rfl rfl rfl rfl (by have h := hT5; show a < ax_top G4p; omega) (show ax_K G4p a = 8 + 3 from (hB5.2.2.1 0 (11, 0, [(1, 10), (0, 1)]) (by decide +kernel)).1) (fun _ => rfl) (fun _ => rfl) (dk ddX3_init 16 rfl) ?_
  have h_ := hB5.ref (j := 0) (k := 2) (b := List.length tX3_4) (x := (11, 0, [(1, 10), (0, 1)])) (by decide +kernel) (by decide +kernel)
  rw [← hB4.1] at h_
  have hB6 : ax_Bt G I L a (ax_used G + 153) tX3_6 iX3_3 (ax_gR G4p a 2 (some (ax_top G4))) I4p L4p := h_
  generalize ax_gR G4p a 2 (some (ax_top G4)) = G6 at hB6 ⊢
  have hL6 : List.length tX3_6 = 28 := by decide +kernel
  have hT6 : ax_top G6 = a + 28 := by have h := hB6.1; rw [hL6] at h; exact h
  have hU6 : ax_used G6 = ax_used G + 153 := hB6.2.1
  clear hL6
  clear h_ hq
  clear hB4 hT4 hU4 hB5 hT5 hU5
  refine x_aload_n C (dk ddX3_init 17 rfl) rfl ?_
  refine x_new C (ci := 2) (q0 := (RX2, TX2, 3)) (tyf := tyX2) rfl cw2 tyX2_ok dfX2 (ax_inT 1 192 (by decide +kernel)) (ax_inT 1 193 (by decide +kernel)) miX2 (by have h := hT6; show ax_top G6 + 1 ≤ ax_top G + 56; omega) (by have h := hU6; show ax_used G6 + 3 ≤ ax_used G + 318; omega) (dk ddX3_init 18 rfl) ?_
  refine x_dup C (dk ddX3_init 19 rfl) rfl ?_
  refine x_callI C (As := []) (k_X2_init l D T o (d - 1) (ax_new G6 10 0 3) (ax_z I4p (ax_top G6) 0) (ax_z L4p (ax_top G6) 0) (ax_top G6) rfl (ax_new_K G6 10 0 3) (ax_new_N G6 10 0 3) (ax_z_eq _ _ _) (ax_z_eq _ _ _) (by omega)) mlX3_11 ⟨by show d - 1 + 1 ≤ d; omega, by show 40 * (d - 1 + 1) ≤ 40 * d; omega⟩ ⟨by have h := hT6; show ax_top G6 + 1 + 8 ≤ ax_top G + 56; omega, by have h := hU6; show ax_used G6 + 3 + 48 ≤ ax_used G + 318; omega⟩ rfl (Nat.le_of_ble_eq_true rfl) (dk ddX3_init 20 rfl) ?_
  rintro v_ G6p I6p L6p ⟨rfl, hp⟩
  have hq := hB6.obj hp
  clear hp
  have hB7 : ax_Bt G I L a (ax_used G + 204) tX3_7 iX3_4 G6p I6p L6p := hq
  have hL7 : List.length tX3_7 = 37 := by decide +kernel
  have hT7 : ax_top G6p = a + 37 := by have h := hB7.1; rw [hL7] at h; exact h
  have hU7 : ax_used G6p = ax_used G + 204 := hB7.2.1
  clear hL7
  refine x_putrF C flX3_24 fw3 rfl rfl rfl rfl (by have h := hT7; show a < ax_top G6p; omega) (show ax_K G6p a = 8 + 3 from (hB7.2.2.1 0 (11, 0, [(2, 19), (1, 10), (0, 1)]) (by decide +kernel)).1) (fun _ => rfl) (fun _ => rfl) (dk ddX3_init 21 rfl) ?_
  have h_ := hB7.ref (j := 0) (k := 3) (b := List.length tX3_6) (x := (11, 0, [(2, 19), (1, 10), (0, 1)])) (by decide +kernel) (by decide +kernel)
  rw [← hB6.1] at h_
  have hB8 : ax_Bt G I L a (ax_used G + 204) tX3_8 iX3_4 (ax_gR G6p a 3 (some (ax_top G6))) I6p L6p := h_
  generalize ax_gR G6p a 3 (some (ax_top G6)) = G8 at hB8 ⊢
  have hL8 : List.length tX3_8 = 37 := by decide +kernel
  have hT8 : ax_top G8 = a + 37 := by have h := hB8.1; rw [hL8] at h; exact h
  have hU8 : ax_used G8 = ax_used G + 204 := hB8.2.1
  clear hL8
  clear h_ hq
  clear hB6 hT6 hU6 hB7 hT7 hU7
  refine x_aload_n C (dk ddX3_init 22 rfl) rfl ?_
  refine x_new C (ci := 2) (q0 := (RX2, TX2, 3)) (tyf := tyX2) rfl cw2 tyX2_ok dfX2 (ax_inT 1 192 (by decide +kernel)) (ax_inT 1 193 (by decide +kernel)) miX2 (by have h := hT8; show ax_top G8 + 1 ≤ ax_top G + 56; omega) (by have h := hU8; show ax_used G8 + 3 ≤ ax_used G + 318; omega) (dk ddX3_init 23 rfl) ?_
  refine x_dup C (dk ddX3_init 24 rfl) rfl ?_
  refine x_callI C (As := []) (k_X2_init l D T o (d - 1) (ax_new G8 10 0 3) (ax_z I6p (ax_top G8) 0) (ax_z L6p (ax_top G8) 0) (ax_top G8) rfl (ax_new_K G8 10 0 3) (ax_new_N G8 10 0 3) (ax_z_eq _ _ _) (ax_z_eq _ _ _) (by omega)) mlX3_11 ⟨by show d - 1 + 1 ≤ d; omega, by show 40 * (d - 1 + 1) ≤ 40 * d; omega⟩ ⟨by have h := hT8; show ax_top G8 + 1 + 8 ≤ ax_top G + 56; omega, by have h := hU8; show ax_used G8 + 3 + 48 ≤ ax_used G + 318; omega⟩ rfl (Nat.le_of_ble_eq_true rfl) (dk ddX3_init 25 rfl) ?_
  rintro v_ G8p I8p L8p ⟨rfl, hp⟩
  have hq := hB8.obj hp
  clear hp
  have hB9 : ax_Bt G I L a (ax_used G + 255) tX3_9 iX3_5 G8p I8p L8p := hq
  have hL9 : List.length tX3_9 = 46 := by decide +kernel
  have hT9 : ax_top G8p = a + 46 := by have h := hB9.1; rw [hL9] at h; exact h
  have hU9 : ax_used G8p = ax_used G + 255 := hB9.2.1
  clear hL9
  refine x_putrF C flX3_27 fw3 rfl rfl rfl rfl (by have h := hT9; show a < ax_top G8p; omega) (show ax_K G8p a = 8 + 3 from (hB9.2.2.1 0 (11, 0, [(3, 28), (2, 19), (1, 10), (0, 1)]) (by decide +kernel)).1) (fun _ => rfl) (fun _ => rfl) (dk ddX3_init 26 rfl) ?_
  have h_ := hB9.ref (j := 0) (k := 4) (b := List.length tX3_8) (x := (11, 0, [(3, 28), (2, 19), (1, 10), (0, 1)])) (by decide +kernel) (by decide +kernel)
  rw [← hB8.1] at h_
  have hB10 : ax_Bt G I L a (ax_used G + 255) tX3_10 iX3_5 (ax_gR G8p a 4 (some (ax_top G8))) I8p L8p := h_
  generalize ax_gR G8p a 4 (some (ax_top G8)) = G10 at hB10 ⊢
  have hL10 : List.length tX3_10 = 46 := by decide +kernel
  have hT10 : ax_top G10 = a + 46 := by have h := hB10.1; rw [hL10] at h; exact h
  have hU10 : ax_used G10 = ax_used G + 255 := hB10.2.1
  clear hL10
  clear h_ hq
  clear hB8 hT8 hU8 hB9 hT9 hU9
  refine x_aload_n C (dk ddX3_init 27 rfl) rfl ?_
  refine x_new C (ci := 2) (q0 := (RX2, TX2, 3)) (tyf := tyX2) rfl cw2 tyX2_ok dfX2 (ax_inT 1 192 (by decide +kernel)) (ax_inT 1 193 (by decide +kernel)) miX2 (by have h := hT10; show ax_top G10 + 1 ≤ ax_top G + 56; omega) (by have h := hU10; show ax_used G10 + 3 ≤ ax_used G + 318; omega) (dk ddX3_init 28 rfl) ?_
  refine x_dup C (dk ddX3_init 29 rfl) rfl ?_
  refine x_callI C (As := []) (k_X2_init l D T o (d - 1) (ax_new G10 10 0 3) (ax_z I8p (ax_top G10) 0) (ax_z L8p (ax_top G10) 0) (ax_top G10) rfl (ax_new_K G10 10 0 3) (ax_new_N G10 10 0 3) (ax_z_eq _ _ _) (ax_z_eq _ _ _) (by omega)) mlX3_11 ⟨by show d - 1 + 1 ≤ d; omega, by show 40 * (d - 1 + 1) ≤ 40 * d; omega⟩ ⟨by have h := hT10; show ax_top G10 + 1 + 8 ≤ ax_top G + 56; omega, by have h := hU10; show ax_used G10 + 3 + 48 ≤ ax_used G + 318; omega⟩ rfl (Nat.le_of_ble_eq_true rfl) (dk ddX3_init 30 rfl) ?_
  rintro v_ G10p I10p L10p ⟨rfl, hp⟩
  have hq := hB10.obj hp
  clear hp
  have hB11 : ax_Bt G I L a (ax_used G + 306) tX3_11 iX3_6 G10p I10p L10p := hq
  have hL11 : List.length tX3_11 = 55 := by decide +kernel
  have hT11 : ax_top G10p = a + 55 := by have h := hB11.1; rw [hL11] at h; exact h
  have hU11 : ax_used G10p = ax_used G + 306 := hB11.2.1
  clear hL11
  refine x_putrF C flX3_30 fw3 rfl rfl rfl rfl (by have h := hT11; show a < ax_top G10p; omega) (show ax_K G10p a = 8 + 3 from (hB11.2.2.1 0 (11, 0, [(4, 37), (3, 28), (2, 19), (1, 10), (0, 1)]) (by decide +kernel)).1) (fun _ => rfl) (fun _ => rfl) (dk ddX3_init 31 rfl) ?_
  have h_ := hB11.ref (j := 0) (k := 5) (b := List.length tX3_10) (x := (11, 0, [(4, 37), (3, 28), (2, 19), (1, 10), (0, 1)])) (by decide +kernel) (by decide +kernel)
  rw [← hB10.1] at h_
  have hB12 : ax_Bt G I L a (ax_used G + 306) tX3_12 iX3_6 (ax_gR G10p a 5 (some (ax_top G10))) I10p L10p := h_
  generalize ax_gR G10p a 5 (some (ax_top G10)) = G12 at hB12 ⊢
  have hL12 : List.length tX3_12 = 55 := by decide +kernel
  have hT12 : ax_top G12 = a + 55 := by have h := hB12.1; rw [hL12] at h; exact h
  have hU12 : ax_used G12 = ax_used G + 306 := hB12.2.1
  clear hL12
  clear h_ hq
  clear hB10 hT10 hU10 hB11 hT11 hU11
  refine x_aload_n C (dk ddX3_init 32 rfl) rfl ?_
  refine x_bipush C (v := nI 6) (dk ddX3_init 33 rfl) (by decide) ?_
  refine x_nal C (by decide) (by have h := hT12; show ax_top G12 + 1 ≤ ax_top G + 56; omega) (by have h := hU12; show ax_used G12 + 6 ≤ ax_used G + 318; omega) (dk ddX3_init 34 rfl) ?_
  have hN_ := hB12.new (k := 2) (n := 6) (sl := 6)
  have hB13 : ax_Bt G I L a (ax_used G + 312) tX3_13 iX3_7 (ax_new G12 2 6 6) (ax_z I10p (ax_top G12) 0) (ax_z L10p (ax_top G12) 0) := hN_
  generalize ax_new G12 2 6 6 = G13 at hB13 ⊢
  generalize ax_z I10p (ax_top G12) 0 = I13 at hB13 ⊢
  generalize ax_z L10p (ax_top G12) 0 = L13 at hB13 ⊢
  have hL13 : List.length tX3_13 = 56 := by decide +kernel
  have hT13 : ax_top G13 = a + 56 := by have h := hB13.1; rw [hL13] at h; exact h
  have hU13 : ax_used G13 = ax_used G + 312 := hB13.2.1
  clear hL13
  clear hN_
  refine x_putrF C flX3_33 fw3 rfl rfl rfl rfl (by have h := hT13; show a < ax_top G13; omega) (show ax_K G13 a = 8 + 3 from (hB13.2.2.1 0 (11, 0, [(5, 46), (4, 37), (3, 28), (2, 19), (1, 10), (0, 1)]) (by decide +kernel)).1) (fun _ => rfl) (fun _ => rfl) (dk ddX3_init 35 rfl) ?_
  have h_ := hB13.ref (j := 0) (k := 6) (b := List.length tX3_12) (x := (11, 0, [(5, 46), (4, 37), (3, 28), (2, 19), (1, 10), (0, 1)])) (by decide +kernel) (by decide +kernel)
  rw [← hB12.1] at h_
  have hB14 : ax_Bt G I L a (ax_used G + 312) tX3_14 iX3_7 (ax_gR G13 a 6 (some (ax_top G12))) I13 L13 := h_
  generalize ax_gR G13 a 6 (some (ax_top G12)) = G14 at hB14 ⊢
  have hL14 : List.length tX3_14 = 56 := by decide +kernel
  have hT14 : ax_top G14 = a + 56 := by have h := hB14.1; rw [hL14] at h; exact h
  have hU14 : ax_used G14 = ax_used G + 312 := hB14.2.1
  clear hL14
  clear h_
  clear hB12 hT12 hU12 hB13 hT13 hU13
  refine x_aload_n C (dk ddX3_init 36 rfl) rfl ?_
  refine x_bipush C (v := nI 6) (dk ddX3_init 37 rfl) (by decide) ?_
  refine x_nal C (by decide) (by have h := hT14; show ax_top G14 + 1 ≤ ax_top G + 56; omega) (by have h := hU14; show ax_used G14 + 6 ≤ ax_used G + 318; omega) (dk ddX3_init 38 rfl) ?_
  have hN_ := hB14.new (k := 2) (n := 6) (sl := 6)
  have hB15 : ax_Bt G I L a (ax_used G + 318) tX3_15 iX3_8 (ax_new G14 2 6 6) (ax_z I13 (ax_top G14) 0) (ax_z L13 (ax_top G14) 0) := hN_
  generalize ax_new G14 2 6 6 = G15 at hB15 ⊢
  generalize ax_z I13 (ax_top G14) 0 = I15 at hB15 ⊢
  generalize ax_z L13 (ax_top G14) 0 = L15 at hB15 ⊢
  have hL15 : List.length tX3_15 = 57 := by decide +kernel
  have hT15 : ax_top G15 = a + 57 := by have h := hB15.1; rw [hL15] at h; exact h
  have hU15 : ax_used G15 = ax_used G + 318 := hB15.2.1
  clear hL15
  clear hN_
  refine x_putrF C flX3_37 fw3 rfl rfl rfl rfl (by have h := hT15; show a < ax_top G15; omega) (show ax_K G15 a = 8 + 3 from (hB15.2.2.1 0 (11, 0, [(6, 55), (5, 46), (4, 37), (3, 28), (2, 19), (1, 10), (0, 1)]) (by decide +kernel)).1) (fun _ => rfl) (fun _ => rfl) (dk ddX3_init 39 rfl) ?_
  have h_ := hB15.ref (j := 0) (k := 7) (b := List.length tX3_14) (x := (11, 0, [(6, 55), (5, 46), (4, 37), (3, 28), (2, 19), (1, 10), (0, 1)])) (by decide +kernel) (by decide +kernel)
  rw [← hB14.1] at h_
  have hB16 : ax_Bt G I L a (ax_used G + 318) tX3_16 iX3_8 (ax_gR G15 a 7 (some (ax_top G14))) I15 L15 := h_
  generalize ax_gR G15 a 7 (some (ax_top G14)) = G16 at hB16 ⊢
  have hL16 : List.length tX3_16 = 57 := by decide +kernel
  have hT16 : ax_top G16 = a + 57 := by have h := hB16.1; rw [hL16] at h; exact h
  have hU16 : ax_used G16 = ax_used G + 318 := hB16.2.1
  clear hL16
  clear h_
  exact x_vret C rfl ⟨rfl, hB16⟩ (by have h := hT16; show ax_top G16 = ax_top G + 56; omega) hU16 (dk ddX3_init 40 rfl)

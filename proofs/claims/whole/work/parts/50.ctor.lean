/-! ===== constructors of the class's small objects ===== -/
theorem ax_Bt.upd {G0 G : ax_G} {I0 I I' : ax_I} {L0 L : ax_L} {a us j : Nat} {T : ax_Tb} {C : List (Nat → Int32)} {f : Nat → Int32} (h : ax_Bt G0 I0 L0 a us T C G I L) (hj : j < T.length) (hI : ∀ b, b ≠ a + j → I' b = I b) (hf : I' (a + j) = f) : ax_Bt G0 I0 L0 a us T (C.set j f) G I' L := by
  obtain ⟨h1, h2, h3, h4, h5, h6, h7, h8⟩ := h
  refine ⟨h1, h2, h3, h4, fun b hb => ?_, by rw [List.length_set]; exact h6, fun i g hg => ?_, h8⟩
  · rw [hI b (by omega)]; exact h5 b hb
  · rw [List.getElem?_set] at hg
    by_cases hji : j = i
    · subst hji
      rw [if_pos rfl, if_pos (by omega)] at hg
      cases hg
      exact hf
    · rw [if_neg hji] at hg
      rw [hI _ (by omega)]
      exact h7 i g hg
def tX4 : ax_Tb := [(12, 0, [(0, 1)]), (2, 9, [])]
def iX4 : List (Nat → Int32) := [fun i => if i = 1 then nI 0 else (fun _ => 0) i, fun _ => 0]
set_option maxRecDepth 20000 in
/-- Rings -/
theorem k_X4_init (l : Launch) (D : va_G) (T : Nat → ClassId) (o d : Nat) (G : ax_G) (I : ax_I) (L : ax_L) (a : Nat) (ht : ax_top G = a + 1) (hK : ax_K G a = 8 + 4) (hN : ax_N G a = 0) (hI : I a = fun _ => 0) (hL : L a = fun _ => 0) (hd : 2 ≤ d) : ax_Con l D T o yX4_init cX4_init 1 none d 1 9 [.ref a] G I L (fun v G' I' L' => v = none ∧ ax_Bt G I L a (ax_used G + 9) tX4 iX4 G' I' L') := by
  refine ax_enter (by decide +kernel) (Nat.le_of_ble_eq_true rfl) ?_
  intro p_ e_ s_ m_ args_ below_ meth_ c_ C _
  refine x_lvs (lv' := [(0, .ref a)]) rfl ?_
  have hB0 : ax_Bt G I L a (ax_used G + 0) [(12, 0, [])] [fun _ => 0] G I L := ax_Bt.start ht hK hN hI hL
  refine x_aload_n C (dk ddX4_init 0 rfl) rfl ?_
  refine x_obj C (ax_inT 2 40 (by decide +kernel)) (ax_inT 1 22 (by decide +kernel)) (ax_inC 1 23 rfl) ⟨by show 1 ≤ d; omega, by show 40 ≤ 40 * d; omega⟩ (Nat.le_of_ble_eq_true rfl) (dk ddX4_init 1 rfl) ?_
  refine x_aload_n C (dk ddX4_init 2 rfl) rfl ?_
  refine x_bipush C (v := nI 9) (dk ddX4_init 3 rfl) (by decide) ?_
  refine x_nal C (by decide) (by have h1 : ax_top G = a + 1 := hB0.1; show ax_top G + 1 ≤ ax_top G + 1; omega) (by have h1 : ax_used G = ax_used G + 0 := hB0.2.1; show ax_used G + 9 ≤ ax_used G + 9; omega) (dk ddX4_init 4 rfl) ?_
  refine x_putrF C flX4_9 fw4 rfl rfl rfl rfl (by rw [ax_new_top, hB0.1]; show a < a + 1 + 1; omega) (by rw [ax_new_Kne (by rw [hB0.1]; show a ≠ a + 1; omega)]; exact (show ax_K G a = 8 + 4 from (hB0.2.2.1 0 _ rfl).1)) (fun _ => rfl) (fun _ => rfl) (dk ddX4_init 5 rfl) ?_
  have h_ := (hB0.new (k := 2) (n := 9) (sl := 9)).ref (j := 0) (k := 0) (b := List.length ([(12, 0, [])] : ax_Tb)) rfl rfl
  rw [← hB0.1] at h_
  have hB1 : ax_Bt G I L a (ax_used G + 9) [(12, 0, [(0, 1)]), (2, 9, [])] [fun _ => 0, fun _ => 0] (ax_gR (ax_new G 2 9 9) a 0 (some (ax_top G))) (ax_z I (ax_top G) 0) (ax_z L (ax_top G) 0) := h_
  clear h_
  generalize ax_gR (ax_new G 2 9 9) a 0 (some (ax_top G)) = G1 at hB1 ⊢
  generalize ax_z I (ax_top G) 0 = I1 at hB1 ⊢
  generalize ax_z L (ax_top G) 0 = L1 at hB1 ⊢
  refine x_aload_n C (dk ddX4_init 6 rfl) rfl ?_
  refine x_iconst C (v := nI 0) (dk ddX4_init 7 rfl) (by decide) ?_
  refine x_puti C flX4_15 fw4 rfl rfl (by rw [hB1.1]; show a < a + 2; omega) (show ax_K G1 a = 8 + 4 from (hB1.2.2.1 0 _ rfl).1) rfl rfl (dk ddX4_init 8 rfl) ?_
  have hB2 : ax_Bt G I L a (ax_used G + 9) [(12, 0, [(0, 1)]), (2, 9, [])] [fun i => if i = 1 then nI 0 else (fun _ => 0) i, fun _ => 0] G1 (ax_u I1 a 1 (nI 0)) L1 := hB1.int (j := 0) (k := 1) (v := (nI 0)) (Nat.succ_pos _)
  generalize ax_u I1 a 1 (nI 0) = I2 at hB2 ⊢
  exact x_vret C rfl ⟨rfl, hB2⟩ (by have h1 : ax_top G1 = a + 2 := hB2.1; show ax_top G1 = ax_top G + 1; omega) hB2.2.1 (dk ddX4_init 9 rfl)
def tX5 : ax_Tb := [(13, 0, [(2, 1)]), (2, 40, [])]
def iX5 : List (Nat → Int32) := [fun i => if i = 1 then nI 0 else (fun i => if i = 0 then (-1) else (fun _ => 0) i) i, fun _ => 0]
set_option maxRecDepth 20000 in
/-- Sheet -/
theorem k_X5_init (l : Launch) (D : va_G) (T : Nat → ClassId) (o d : Nat) (G : ax_G) (I : ax_I) (L : ax_L) (a : Nat) (ht : ax_top G = a + 1) (hK : ax_K G a = 8 + 5) (hN : ax_N G a = 0) (hI : I a = fun _ => 0) (hL : L a = fun _ => 0) (hd : 2 ≤ d) : ax_Con l D T o yX5_init cX5_init 1 none d 1 40 [.ref a] G I L (fun v G' I' L' => v = none ∧ ax_Bt G I L a (ax_used G + 40) tX5 iX5 G' I' L') := by
  refine ax_enter (by decide +kernel) (Nat.le_of_ble_eq_true rfl) ?_
  intro p_ e_ s_ m_ args_ below_ meth_ c_ C _
  refine x_lvs (lv' := [(0, .ref a)]) rfl ?_
  have hB0 : ax_Bt G I L a (ax_used G + 0) [(13, 0, [])] [fun _ => 0] G I L := ax_Bt.start ht hK hN hI hL
  refine x_aload_n C (dk ddX5_init 0 rfl) rfl ?_
  refine x_obj C (ax_inT 2 53 (by decide +kernel)) (ax_inT 1 22 (by decide +kernel)) (ax_inC 1 23 rfl) ⟨by show 1 ≤ d; omega, by show 40 ≤ 40 * d; omega⟩ (Nat.le_of_ble_eq_true rfl) (dk ddX5_init 1 rfl) ?_
  refine x_aload_n C (dk ddX5_init 2 rfl) rfl ?_
  refine x_iconst C (v := (-1)) (dk ddX5_init 3 rfl) (by decide) ?_
  refine x_puti C flX5_9 fw5 rfl rfl (by rw [hB0.1]; show a < a + 1; omega) (show ax_K G a = 8 + 5 from (hB0.2.2.1 0 _ rfl).1) rfl rfl (dk ddX5_init 4 rfl) ?_
  have hB1 : ax_Bt G I L a (ax_used G + 0) [(13, 0, [])] [fun i => if i = 0 then (-1) else (fun _ => 0) i] G (ax_u I a 0 (-1)) L := hB0.int (j := 0) (k := 0) (v := (-1)) (Nat.succ_pos _)
  generalize ax_u I a 0 (-1) = I1 at hB1 ⊢
  refine x_aload_n C (dk ddX5_init 5 rfl) rfl ?_
  refine x_iconst C (v := nI 0) (dk ddX5_init 6 rfl) (by decide) ?_
  refine x_puti C flX5_15 fw5 rfl rfl (by rw [hB1.1]; show a < a + 1; omega) (show ax_K G a = 8 + 5 from (hB1.2.2.1 0 _ rfl).1) rfl rfl (dk ddX5_init 7 rfl) ?_
  have hB2 : ax_Bt G I L a (ax_used G + 0) [(13, 0, [])] [fun i => if i = 1 then nI 0 else (fun i => if i = 0 then (-1) else (fun _ => 0) i) i] G (ax_u I1 a 1 (nI 0)) L := hB1.int (j := 0) (k := 1) (v := (nI 0)) (Nat.succ_pos _)
  generalize ax_u I1 a 1 (nI 0) = I2 at hB2 ⊢
  refine x_aload_n C (dk ddX5_init 8 rfl) rfl ?_
  refine x_bipush C (v := nI 40) (dk ddX5_init 9 rfl) (by decide) ?_
  refine x_nal C (by decide) (by have h1 : ax_top G = a + 1 := hB2.1; show ax_top G + 1 ≤ ax_top G + 1; omega) (by have h1 : ax_used G = ax_used G + 0 := hB2.2.1; show ax_used G + 40 ≤ ax_used G + 40; omega) (dk ddX5_init 10 rfl) ?_
  refine x_putrF C flX5_18 fw5 rfl rfl rfl rfl (by rw [ax_new_top, hB2.1]; show a < a + 1 + 1; omega) (by rw [ax_new_Kne (by rw [hB2.1]; show a ≠ a + 1; omega)]; exact (show ax_K G a = 8 + 5 from (hB2.2.2.1 0 _ rfl).1)) (fun _ => rfl) (fun _ => rfl) (dk ddX5_init 11 rfl) ?_
  have h_ := (hB2.new (k := 2) (n := 40) (sl := 40)).ref (j := 0) (k := 2) (b := List.length ([(13, 0, [])] : ax_Tb)) rfl rfl
  rw [← hB2.1] at h_
  have hB3 : ax_Bt G I L a (ax_used G + 40) [(13, 0, [(2, 1)]), (2, 40, [])] [fun i => if i = 1 then nI 0 else (fun i => if i = 0 then (-1) else (fun _ => 0) i) i, fun _ => 0] (ax_gR (ax_new G 2 40 40) a 2 (some (ax_top G))) (ax_z I2 (ax_top G) 0) (ax_z L (ax_top G) 0) := h_
  clear h_
  generalize ax_gR (ax_new G 2 40 40) a 2 (some (ax_top G)) = G3 at hB3 ⊢
  generalize ax_z I2 (ax_top G) 0 = I3 at hB3 ⊢
  generalize ax_z L (ax_top G) 0 = L3 at hB3 ⊢
  exact x_vret C rfl ⟨rfl, hB3⟩ (by have h1 : ax_top G3 = a + 2 := hB3.1; show ax_top G3 = ax_top G + 1; omega) hB3.2.1 (dk ddX5_init 12 rfl)
def tX6 : ax_Tb := [(14, 0, [(1, 1)]), (2, 3, [])]
def iX6 : List (Nat → Int32) := [fun i => if i = 3 then nI 0 else (fun i => if i = 2 then (-1) else (fun i => if i = 0 then (-1) else (fun _ => 0) i) i) i, fun _ => 0]
set_option maxRecDepth 20000 in
/-- Shelf -/
theorem k_X6_init (l : Launch) (D : va_G) (T : Nat → ClassId) (o d : Nat) (G : ax_G) (I : ax_I) (L : ax_L) (a : Nat) (ht : ax_top G = a + 1) (hK : ax_K G a = 8 + 6) (hN : ax_N G a = 0) (hI : I a = fun _ => 0) (hL : L a = fun _ => 0) (hd : 2 ≤ d) : ax_Con l D T o yX6_init cX6_init 1 none d 1 3 [.ref a] G I L (fun v G' I' L' => v = none ∧ ax_Bt G I L a (ax_used G + 3) tX6 iX6 G' I' L') := by
  refine ax_enter (by decide +kernel) (Nat.le_of_ble_eq_true rfl) ?_
  intro p_ e_ s_ m_ args_ below_ meth_ c_ C _
  refine x_lvs (lv' := [(0, .ref a)]) rfl ?_
  have hB0 : ax_Bt G I L a (ax_used G + 0) [(14, 0, [])] [fun _ => 0] G I L := ax_Bt.start ht hK hN hI hL
  refine x_aload_n C (dk ddX6_init 0 rfl) rfl ?_
  refine x_obj C (ax_inT 2 71 (by decide +kernel)) (ax_inT 1 22 (by decide +kernel)) (ax_inC 1 23 rfl) ⟨by show 1 ≤ d; omega, by show 40 ≤ 40 * d; omega⟩ (Nat.le_of_ble_eq_true rfl) (dk ddX6_init 1 rfl) ?_
  refine x_aload_n C (dk ddX6_init 2 rfl) rfl ?_
  refine x_iconst C (v := (-1)) (dk ddX6_init 3 rfl) (by decide) ?_
  refine x_puti C flX6_9 fw6 rfl rfl (by rw [hB0.1]; show a < a + 1; omega) (show ax_K G a = 8 + 6 from (hB0.2.2.1 0 _ rfl).1) rfl rfl (dk ddX6_init 4 rfl) ?_
  have hB1 : ax_Bt G I L a (ax_used G + 0) [(14, 0, [])] [fun i => if i = 0 then (-1) else (fun _ => 0) i] G (ax_u I a 0 (-1)) L := hB0.int (j := 0) (k := 0) (v := (-1)) (Nat.succ_pos _)
  generalize ax_u I a 0 (-1) = I1 at hB1 ⊢
  refine x_aload_n C (dk ddX6_init 5 rfl) rfl ?_
  refine x_iconst C (v := nI 3) (dk ddX6_init 6 rfl) (by decide) ?_
  refine x_nal C (by decide) (by have h1 : ax_top G = a + 1 := hB1.1; show ax_top G + 1 ≤ ax_top G + 1; omega) (by have h1 : ax_used G = ax_used G + 0 := hB1.2.1; show ax_used G + 3 ≤ ax_used G + 3; omega) (dk ddX6_init 7 rfl) ?_
  refine x_putrF C flX6_15 fw6 rfl rfl rfl rfl (by rw [ax_new_top, hB1.1]; show a < a + 1 + 1; omega) (by rw [ax_new_Kne (by rw [hB1.1]; show a ≠ a + 1; omega)]; exact (show ax_K G a = 8 + 6 from (hB1.2.2.1 0 _ rfl).1)) (fun _ => rfl) (fun _ => rfl) (dk ddX6_init 8 rfl) ?_
  have h_ := (hB1.new (k := 2) (n := 3) (sl := 3)).ref (j := 0) (k := 1) (b := List.length ([(14, 0, [])] : ax_Tb)) rfl rfl
  rw [← hB1.1] at h_
  have hB2 : ax_Bt G I L a (ax_used G + 3) [(14, 0, [(1, 1)]), (2, 3, [])] [fun i => if i = 0 then (-1) else (fun _ => 0) i, fun _ => 0] (ax_gR (ax_new G 2 3 3) a 1 (some (ax_top G))) (ax_z I1 (ax_top G) 0) (ax_z L (ax_top G) 0) := h_
  clear h_
  generalize ax_gR (ax_new G 2 3 3) a 1 (some (ax_top G)) = G2 at hB2 ⊢
  generalize ax_z I1 (ax_top G) 0 = I2 at hB2 ⊢
  generalize ax_z L (ax_top G) 0 = L2 at hB2 ⊢
  refine x_aload_n C (dk ddX6_init 9 rfl) rfl ?_
  refine x_iconst C (v := (-1)) (dk ddX6_init 10 rfl) (by decide) ?_
  refine x_puti C flX6_19 fw6 rfl rfl (by rw [hB2.1]; show a < a + 2; omega) (show ax_K G2 a = 8 + 6 from (hB2.2.2.1 0 _ rfl).1) rfl rfl (dk ddX6_init 11 rfl) ?_
  have hB3 : ax_Bt G I L a (ax_used G + 3) [(14, 0, [(1, 1)]), (2, 3, [])] [fun i => if i = 2 then (-1) else (fun i => if i = 0 then (-1) else (fun _ => 0) i) i, fun _ => 0] G2 (ax_u I2 a 2 (-1)) L2 := hB2.int (j := 0) (k := 2) (v := (-1)) (Nat.succ_pos _)
  generalize ax_u I2 a 2 (-1) = I3 at hB3 ⊢
  refine x_aload_n C (dk ddX6_init 12 rfl) rfl ?_
  refine x_iconst C (v := nI 0) (dk ddX6_init 13 rfl) (by decide) ?_
  refine x_puti C flX6_22 fw6 rfl rfl (by rw [hB3.1]; show a < a + 2; omega) (show ax_K G2 a = 8 + 6 from (hB3.2.2.1 0 _ rfl).1) rfl rfl (dk ddX6_init 14 rfl) ?_
  have hB4 : ax_Bt G I L a (ax_used G + 3) [(14, 0, [(1, 1)]), (2, 3, [])] [fun i => if i = 3 then nI 0 else (fun i => if i = 2 then (-1) else (fun i => if i = 0 then (-1) else (fun _ => 0) i) i) i, fun _ => 0] G2 (ax_u I3 a 3 (nI 0)) L2 := hB3.int (j := 0) (k := 3) (v := (nI 0)) (Nat.succ_pos _)
  generalize ax_u I3 a 3 (nI 0) = I4 at hB4 ⊢
  exact x_vret C rfl ⟨rfl, hB4⟩ (by have h1 : ax_top G2 = a + 2 := hB4.1; show ax_top G2 = ax_top G + 1; omega) hB4.2.1 (dk ddX6_init 15 rfl)
def tX8 : ax_Tb := [(16, 0, [(3, 2), (2, 1)]), (2, 9, []), (2, 3, [])]
def iX8 : List (Nat → Int32) := [fun i => if i = 1 then (-1) else (fun i => if i = 0 then (-1) else (fun _ => 0) i) i, fun _ => 0, fun _ => 0]
set_option maxRecDepth 20000 in
/-- Table -/
theorem k_X8_init (l : Launch) (D : va_G) (T : Nat → ClassId) (o d : Nat) (G : ax_G) (I : ax_I) (L : ax_L) (a : Nat) (ht : ax_top G = a + 1) (hK : ax_K G a = 8 + 8) (hN : ax_N G a = 0) (hI : I a = fun _ => 0) (hL : L a = fun _ => 0) (hd : 2 ≤ d) : ax_Con l D T o yX8_init cX8_init 1 none d 2 12 [.ref a] G I L (fun v G' I' L' => v = none ∧ ax_Bt G I L a (ax_used G + 12) tX8 iX8 G' I' L') := by
  refine ax_enter (by decide +kernel) (Nat.le_of_ble_eq_true rfl) ?_
  intro p_ e_ s_ m_ args_ below_ meth_ c_ C _
  refine x_lvs (lv' := [(0, .ref a)]) rfl ?_
  have hB0 : ax_Bt G I L a (ax_used G + 0) [(16, 0, [])] [fun _ => 0] G I L := ax_Bt.start ht hK hN hI hL
  refine x_aload_n C (dk ddX8_init 0 rfl) rfl ?_
  refine x_obj C (ax_inT 1 126 (by decide +kernel)) (ax_inT 1 22 (by decide +kernel)) (ax_inC 1 23 rfl) ⟨by show 1 ≤ d; omega, by show 40 ≤ 40 * d; omega⟩ (Nat.le_of_ble_eq_true rfl) (dk ddX8_init 1 rfl) ?_
  refine x_aload_n C (dk ddX8_init 2 rfl) rfl ?_
  refine x_iconst C (v := (-1)) (dk ddX8_init 3 rfl) (by decide) ?_
  refine x_puti C flX8_9 fw8 rfl rfl (by rw [hB0.1]; show a < a + 1; omega) (show ax_K G a = 8 + 8 from (hB0.2.2.1 0 _ rfl).1) rfl rfl (dk ddX8_init 4 rfl) ?_
  have hB1 : ax_Bt G I L a (ax_used G + 0) [(16, 0, [])] [fun i => if i = 0 then (-1) else (fun _ => 0) i] G (ax_u I a 0 (-1)) L := hB0.int (j := 0) (k := 0) (v := (-1)) (Nat.succ_pos _)
  generalize ax_u I a 0 (-1) = I1 at hB1 ⊢
  refine x_aload_n C (dk ddX8_init 5 rfl) rfl ?_
  refine x_iconst C (v := (-1)) (dk ddX8_init 6 rfl) (by decide) ?_
  refine x_puti C flX8_15 fw8 rfl rfl (by rw [hB1.1]; show a < a + 1; omega) (show ax_K G a = 8 + 8 from (hB1.2.2.1 0 _ rfl).1) rfl rfl (dk ddX8_init 7 rfl) ?_
  have hB2 : ax_Bt G I L a (ax_used G + 0) [(16, 0, [])] [fun i => if i = 1 then (-1) else (fun i => if i = 0 then (-1) else (fun _ => 0) i) i] G (ax_u I1 a 1 (-1)) L := hB1.int (j := 0) (k := 1) (v := (-1)) (Nat.succ_pos _)
  generalize ax_u I1 a 1 (-1) = I2 at hB2 ⊢
  refine x_aload_n C (dk ddX8_init 8 rfl) rfl ?_
  refine x_bipush C (v := nI 9) (dk ddX8_init 9 rfl) (by decide) ?_
  refine x_nal C (by decide) (by have h1 : ax_top G = a + 1 := hB2.1; show ax_top G + 1 ≤ ax_top G + 2; omega) (by have h1 : ax_used G = ax_used G + 0 := hB2.2.1; show ax_used G + 9 ≤ ax_used G + 12; omega) (dk ddX8_init 10 rfl) ?_
  refine x_putrF C flX8_18 fw8 rfl rfl rfl rfl (by rw [ax_new_top, hB2.1]; show a < a + 1 + 1; omega) (by rw [ax_new_Kne (by rw [hB2.1]; show a ≠ a + 1; omega)]; exact (show ax_K G a = 8 + 8 from (hB2.2.2.1 0 _ rfl).1)) (fun _ => rfl) (fun _ => rfl) (dk ddX8_init 11 rfl) ?_
  have h_ := (hB2.new (k := 2) (n := 9) (sl := 9)).ref (j := 0) (k := 2) (b := List.length ([(16, 0, [])] : ax_Tb)) rfl rfl
  rw [← hB2.1] at h_
  have hB3 : ax_Bt G I L a (ax_used G + 9) [(16, 0, [(2, 1)]), (2, 9, [])] [fun i => if i = 1 then (-1) else (fun i => if i = 0 then (-1) else (fun _ => 0) i) i, fun _ => 0] (ax_gR (ax_new G 2 9 9) a 2 (some (ax_top G))) (ax_z I2 (ax_top G) 0) (ax_z L (ax_top G) 0) := h_
  clear h_
  generalize ax_gR (ax_new G 2 9 9) a 2 (some (ax_top G)) = G3 at hB3 ⊢
  generalize ax_z I2 (ax_top G) 0 = I3 at hB3 ⊢
  generalize ax_z L (ax_top G) 0 = L3 at hB3 ⊢
  refine x_aload_n C (dk ddX8_init 12 rfl) rfl ?_
  refine x_iconst C (v := nI 3) (dk ddX8_init 13 rfl) (by decide) ?_
  refine x_nal C (by decide) (by have h1 : ax_top G3 = a + 2 := hB3.1; show ax_top G3 + 1 ≤ ax_top G + 2; omega) (by have h1 : ax_used G3 = ax_used G + 9 := hB3.2.1; show ax_used G3 + 3 ≤ ax_used G + 12; omega) (dk ddX8_init 14 rfl) ?_
  refine x_putrF C flX8_22 fw8 rfl rfl rfl rfl (by rw [ax_new_top, hB3.1]; show a < a + 2 + 1; omega) (by rw [ax_new_Kne (by rw [hB3.1]; show a ≠ a + 2; omega)]; exact (show ax_K G3 a = 8 + 8 from (hB3.2.2.1 0 _ rfl).1)) (fun _ => rfl) (fun _ => rfl) (dk ddX8_init 15 rfl) ?_
  have h_ := (hB3.new (k := 2) (n := 3) (sl := 3)).ref (j := 0) (k := 3) (b := List.length ([(16, 0, [(2, 1)]), (2, 9, [])] : ax_Tb)) rfl rfl
  rw [← hB3.1] at h_
  have hB4 : ax_Bt G I L a (ax_used G + 12) [(16, 0, [(3, 2), (2, 1)]), (2, 9, []), (2, 3, [])] [fun i => if i = 1 then (-1) else (fun i => if i = 0 then (-1) else (fun _ => 0) i) i, fun _ => 0, fun _ => 0] (ax_gR (ax_new G3 2 3 3) a 3 (some (ax_top G3))) (ax_z I3 (ax_top G3) 0) (ax_z L3 (ax_top G3) 0) := h_
  clear h_
  generalize ax_gR (ax_new G3 2 3 3) a 3 (some (ax_top G3)) = G4 at hB4 ⊢
  generalize ax_z I3 (ax_top G3) 0 = I4 at hB4 ⊢
  generalize ax_z L3 (ax_top G3) 0 = L4 at hB4 ⊢
  exact x_vret C rfl ⟨rfl, hB4⟩ (by have h1 : ax_top G4 = a + 3 := hB4.1; show ax_top G4 = ax_top G + 2; omega) hB4.2.1 (dk ddX8_init 16 rfl)
def tX7 : ax_Tb := [(15, 0, [(13, 13), (12, 12), (11, 11), (10, 10), (9, 9), (8, 8), (7, 7), (5, 6), (4, 5), (3, 4), (2, 3), (1, 2), (0, 1)]), (0, 6, []), (0, 6, []), (0, 72, []), (0, 8, []), (0, 8, []), (0, 72, []), (0, 12, []), (0, 12, []), (0, 12, []), (0, 12, []), (0, 12, []), (0, 12, []), (0, 108, [])]
def iX7 : List (Nat → Int32) := [fun i => if i = 6 then nI 0 else (fun _ => 0) i, fun _ => 0, fun _ => 0, fun _ => 0, fun j => if j < 8 then (-1) else 0, fun j => if j < 8 then (-1) else 0, fun _ => 0, fun _ => 0, fun _ => 0, fun _ => 0, fun _ => 0, fun _ => 0, fun _ => 0, fun _ => 0]
set_option maxRecDepth 20000 in
/-- State -/
theorem k_X7_init (l : Launch) (D : va_G) (T : Nat → ClassId) (o d : Nat) (G : ax_G) (I : ax_I) (L : ax_L) (a : Nat) (ht : ax_top G = a + 1) (hK : ax_K G a = 8 + 7) (hN : ax_N G a = 0) (hI : I a = fun _ => 0) (hL : L a = fun _ => 0) (hd : 2 ≤ d) : ax_Con l D T o yX7_init cX7_init 1 none d 13 352 [.ref a] G I L (fun v G' I' L' => v = none ∧ ax_Bt G I L a (ax_used G + 352) tX7 iX7 G' I' L') := by
  refine ax_enter (by decide +kernel) (Nat.le_of_ble_eq_true rfl) ?_
  intro p_ e_ s_ m_ args_ below_ meth_ c_ C _
  refine x_lvs (lv' := [(0, .ref a)]) rfl ?_
  have hB0 : ax_Bt G I L a (ax_used G + 0) [(15, 0, [])] [fun _ => 0] G I L := ax_Bt.start ht hK hN hI hL
  refine x_aload_n C (dk ddX7_init 0 rfl) rfl ?_
  refine x_obj C (ax_inT 1 29 (by decide +kernel)) (ax_inT 1 22 (by decide +kernel)) (ax_inC 1 23 rfl) ⟨by show 1 ≤ d; omega, by show 40 ≤ 40 * d; omega⟩ (Nat.le_of_ble_eq_true rfl) (dk ddX7_init 1 rfl) ?_
  refine x_aload_n C (dk ddX7_init 2 rfl) rfl ?_
  refine x_bipush C (v := nI 6) (dk ddX7_init 3 rfl) (by decide) ?_
  refine x_nai C (by decide) (by have h1 : ax_top G = a + 1 := hB0.1; show ax_top G + 1 ≤ ax_top G + 13; omega) (by have h1 : ax_used G = ax_used G + 0 := hB0.2.1; show ax_used G + 6 ≤ ax_used G + 352; omega) (dk ddX7_init 4 rfl) ?_
  refine x_putrF C flX7_9 fw7 rfl rfl rfl rfl (by rw [ax_new_top, hB0.1]; show a < a + 1 + 1; omega) (by rw [ax_new_Kne (by rw [hB0.1]; show a ≠ a + 1; omega)]; exact (show ax_K G a = 8 + 7 from (hB0.2.2.1 0 _ rfl).1)) (fun _ => rfl) (fun _ => rfl) (dk ddX7_init 5 rfl) ?_
  have h_ := (hB0.new (k := 0) (n := 6) (sl := 6)).ref (j := 0) (k := 0) (b := List.length ([(15, 0, [])] : ax_Tb)) rfl rfl
  rw [← hB0.1] at h_
  have hB1 : ax_Bt G I L a (ax_used G + 6) [(15, 0, [(0, 1)]), (0, 6, [])] [fun _ => 0, fun _ => 0] (ax_gR (ax_new G 0 6 6) a 0 (some (ax_top G))) (ax_z I (ax_top G) 0) (ax_z L (ax_top G) 0) := h_
  clear h_
  generalize ax_gR (ax_new G 0 6 6) a 0 (some (ax_top G)) = G1 at hB1 ⊢
  generalize ax_z I (ax_top G) 0 = I1 at hB1 ⊢
  generalize ax_z L (ax_top G) 0 = L1 at hB1 ⊢
  refine x_aload_n C (dk ddX7_init 6 rfl) rfl ?_
  refine x_bipush C (v := nI 6) (dk ddX7_init 7 rfl) (by decide) ?_
  refine x_nai C (by decide) (by have h1 : ax_top G1 = a + 2 := hB1.1; show ax_top G1 + 1 ≤ ax_top G + 13; omega) (by have h1 : ax_used G1 = ax_used G + 6 := hB1.2.1; show ax_used G1 + 6 ≤ ax_used G + 352; omega) (dk ddX7_init 8 rfl) ?_
  refine x_putrF C flX7_15 fw7 rfl rfl rfl rfl (by rw [ax_new_top, hB1.1]; show a < a + 2 + 1; omega) (by rw [ax_new_Kne (by rw [hB1.1]; show a ≠ a + 2; omega)]; exact (show ax_K G1 a = 8 + 7 from (hB1.2.2.1 0 _ rfl).1)) (fun _ => rfl) (fun _ => rfl) (dk ddX7_init 9 rfl) ?_
  have h_ := (hB1.new (k := 0) (n := 6) (sl := 6)).ref (j := 0) (k := 1) (b := List.length ([(15, 0, [(0, 1)]), (0, 6, [])] : ax_Tb)) rfl rfl
  rw [← hB1.1] at h_
  have hB2 : ax_Bt G I L a (ax_used G + 12) [(15, 0, [(1, 2), (0, 1)]), (0, 6, []), (0, 6, [])] [fun _ => 0, fun _ => 0, fun _ => 0] (ax_gR (ax_new G1 0 6 6) a 1 (some (ax_top G1))) (ax_z I1 (ax_top G1) 0) (ax_z L1 (ax_top G1) 0) := h_
  clear h_
  generalize ax_gR (ax_new G1 0 6 6) a 1 (some (ax_top G1)) = G2 at hB2 ⊢
  generalize ax_z I1 (ax_top G1) 0 = I2 at hB2 ⊢
  generalize ax_z L1 (ax_top G1) 0 = L2 at hB2 ⊢
  refine x_aload_n C (dk ddX7_init 10 rfl) rfl ?_
  refine x_bipush C (v := nI 72) (dk ddX7_init 11 rfl) (by decide) ?_
  refine x_nai C (by decide) (by have h1 : ax_top G2 = a + 3 := hB2.1; show ax_top G2 + 1 ≤ ax_top G + 13; omega) (by have h1 : ax_used G2 = ax_used G + 12 := hB2.2.1; show ax_used G2 + 72 ≤ ax_used G + 352; omega) (dk ddX7_init 12 rfl) ?_
  refine x_putrF C flX7_18 fw7 rfl rfl rfl rfl (by rw [ax_new_top, hB2.1]; show a < a + 3 + 1; omega) (by rw [ax_new_Kne (by rw [hB2.1]; show a ≠ a + 3; omega)]; exact (show ax_K G2 a = 8 + 7 from (hB2.2.2.1 0 _ rfl).1)) (fun _ => rfl) (fun _ => rfl) (dk ddX7_init 13 rfl) ?_
  have h_ := (hB2.new (k := 0) (n := 72) (sl := 72)).ref (j := 0) (k := 2) (b := List.length ([(15, 0, [(1, 2), (0, 1)]), (0, 6, []), (0, 6, [])] : ax_Tb)) rfl rfl
  rw [← hB2.1] at h_
  have hB3 : ax_Bt G I L a (ax_used G + 84) [(15, 0, [(2, 3), (1, 2), (0, 1)]), (0, 6, []), (0, 6, []), (0, 72, [])] [fun _ => 0, fun _ => 0, fun _ => 0, fun _ => 0] (ax_gR (ax_new G2 0 72 72) a 2 (some (ax_top G2))) (ax_z I2 (ax_top G2) 0) (ax_z L2 (ax_top G2) 0) := h_
  clear h_
  generalize ax_gR (ax_new G2 0 72 72) a 2 (some (ax_top G2)) = G3 at hB3 ⊢
  generalize ax_z I2 (ax_top G2) 0 = I3 at hB3 ⊢
  generalize ax_z L2 (ax_top G2) 0 = L3 at hB3 ⊢
  refine x_aload_n C (dk ddX7_init 14 rfl) rfl ?_
  refine x_bipush C (v := nI 8) (dk ddX7_init 15 rfl) (by decide) ?_
  refine x_nai C (by decide) (by have h1 : ax_top G3 = a + 4 := hB3.1; show ax_top G3 + 1 ≤ ax_top G + 13; omega) (by have h1 : ax_used G3 = ax_used G + 84 := hB3.2.1; show ax_used G3 + 8 ≤ ax_used G + 352; omega) (dk ddX7_init 16 rfl) ?_
  refine x_putrF C flX7_21 fw7 rfl rfl rfl rfl (by rw [ax_new_top, hB3.1]; show a < a + 4 + 1; omega) (by rw [ax_new_Kne (by rw [hB3.1]; show a ≠ a + 4; omega)]; exact (show ax_K G3 a = 8 + 7 from (hB3.2.2.1 0 _ rfl).1)) (fun _ => rfl) (fun _ => rfl) (dk ddX7_init 17 rfl) ?_
  have h_ := (hB3.new (k := 0) (n := 8) (sl := 8)).ref (j := 0) (k := 3) (b := List.length ([(15, 0, [(2, 3), (1, 2), (0, 1)]), (0, 6, []), (0, 6, []), (0, 72, [])] : ax_Tb)) rfl rfl
  rw [← hB3.1] at h_
  have hB4 : ax_Bt G I L a (ax_used G + 92) [(15, 0, [(3, 4), (2, 3), (1, 2), (0, 1)]), (0, 6, []), (0, 6, []), (0, 72, []), (0, 8, [])] [fun _ => 0, fun _ => 0, fun _ => 0, fun _ => 0, fun _ => 0] (ax_gR (ax_new G3 0 8 8) a 3 (some (ax_top G3))) (ax_z I3 (ax_top G3) 0) (ax_z L3 (ax_top G3) 0) := h_
  clear h_
  generalize ax_gR (ax_new G3 0 8 8) a 3 (some (ax_top G3)) = G4 at hB4 ⊢
  generalize ax_z I3 (ax_top G3) 0 = I4 at hB4 ⊢
  generalize ax_z L3 (ax_top G3) 0 = L4 at hB4 ⊢
  refine x_aload_n C (dk ddX7_init 18 rfl) rfl ?_
  refine x_bipush C (v := nI 8) (dk ddX7_init 19 rfl) (by decide) ?_
  refine x_nai C (by decide) (by have h1 : ax_top G4 = a + 5 := hB4.1; show ax_top G4 + 1 ≤ ax_top G + 13; omega) (by have h1 : ax_used G4 = ax_used G + 92 := hB4.2.1; show ax_used G4 + 8 ≤ ax_used G + 352; omega) (dk ddX7_init 20 rfl) ?_
  refine x_putrF C flX7_24 fw7 rfl rfl rfl rfl (by rw [ax_new_top, hB4.1]; show a < a + 5 + 1; omega) (by rw [ax_new_Kne (by rw [hB4.1]; show a ≠ a + 5; omega)]; exact (show ax_K G4 a = 8 + 7 from (hB4.2.2.1 0 _ rfl).1)) (fun _ => rfl) (fun _ => rfl) (dk ddX7_init 21 rfl) ?_
  have h_ := (hB4.new (k := 0) (n := 8) (sl := 8)).ref (j := 0) (k := 4) (b := List.length ([(15, 0, [(3, 4), (2, 3), (1, 2), (0, 1)]), (0, 6, []), (0, 6, []), (0, 72, []), (0, 8, [])] : ax_Tb)) rfl rfl
  rw [← hB4.1] at h_
  have hB5 : ax_Bt G I L a (ax_used G + 100) [(15, 0, [(4, 5), (3, 4), (2, 3), (1, 2), (0, 1)]), (0, 6, []), (0, 6, []), (0, 72, []), (0, 8, []), (0, 8, [])] [fun _ => 0, fun _ => 0, fun _ => 0, fun _ => 0, fun _ => 0, fun _ => 0] (ax_gR (ax_new G4 0 8 8) a 4 (some (ax_top G4))) (ax_z I4 (ax_top G4) 0) (ax_z L4 (ax_top G4) 0) := h_
  clear h_
  generalize ax_gR (ax_new G4 0 8 8) a 4 (some (ax_top G4)) = G5 at hB5 ⊢
  generalize ax_z I4 (ax_top G4) 0 = I5 at hB5 ⊢
  generalize ax_z L4 (ax_top G4) 0 = L5 at hB5 ⊢
  refine x_aload_n C (dk ddX7_init 22 rfl) rfl ?_
  refine x_bipush C (v := nI 72) (dk ddX7_init 23 rfl) (by decide) ?_
  refine x_nai C (by decide) (by have h1 : ax_top G5 = a + 6 := hB5.1; show ax_top G5 + 1 ≤ ax_top G + 13; omega) (by have h1 : ax_used G5 = ax_used G + 100 := hB5.2.1; show ax_used G5 + 72 ≤ ax_used G + 352; omega) (dk ddX7_init 24 rfl) ?_
  refine x_putrF C flX7_27 fw7 rfl rfl rfl rfl (by rw [ax_new_top, hB5.1]; show a < a + 6 + 1; omega) (by rw [ax_new_Kne (by rw [hB5.1]; show a ≠ a + 6; omega)]; exact (show ax_K G5 a = 8 + 7 from (hB5.2.2.1 0 _ rfl).1)) (fun _ => rfl) (fun _ => rfl) (dk ddX7_init 25 rfl) ?_
  have h_ := (hB5.new (k := 0) (n := 72) (sl := 72)).ref (j := 0) (k := 5) (b := List.length ([(15, 0, [(4, 5), (3, 4), (2, 3), (1, 2), (0, 1)]), (0, 6, []), (0, 6, []), (0, 72, []), (0, 8, []), (0, 8, [])] : ax_Tb)) rfl rfl
  rw [← hB5.1] at h_
  have hB6 : ax_Bt G I L a (ax_used G + 172) [(15, 0, [(5, 6), (4, 5), (3, 4), (2, 3), (1, 2), (0, 1)]), (0, 6, []), (0, 6, []), (0, 72, []), (0, 8, []), (0, 8, []), (0, 72, [])] [fun _ => 0, fun _ => 0, fun _ => 0, fun _ => 0, fun _ => 0, fun _ => 0, fun _ => 0] (ax_gR (ax_new G5 0 72 72) a 5 (some (ax_top G5))) (ax_z I5 (ax_top G5) 0) (ax_z L5 (ax_top G5) 0) := h_
  clear h_
  generalize ax_gR (ax_new G5 0 72 72) a 5 (some (ax_top G5)) = G6 at hB6 ⊢
  generalize ax_z I5 (ax_top G5) 0 = I6 at hB6 ⊢
  generalize ax_z L5 (ax_top G5) 0 = L6 at hB6 ⊢
  refine x_aload_n C (dk ddX7_init 26 rfl) rfl ?_
  refine x_iconst C (v := nI 0) (dk ddX7_init 27 rfl) (by decide) ?_
  refine x_puti C flX7_30 fw7 rfl rfl (by rw [hB6.1]; show a < a + 7; omega) (show ax_K G6 a = 8 + 7 from (hB6.2.2.1 0 _ rfl).1) rfl rfl (dk ddX7_init 28 rfl) ?_
  have hB7 : ax_Bt G I L a (ax_used G + 172) [(15, 0, [(5, 6), (4, 5), (3, 4), (2, 3), (1, 2), (0, 1)]), (0, 6, []), (0, 6, []), (0, 72, []), (0, 8, []), (0, 8, []), (0, 72, [])] [fun i => if i = 6 then nI 0 else (fun _ => 0) i, fun _ => 0, fun _ => 0, fun _ => 0, fun _ => 0, fun _ => 0, fun _ => 0] G6 (ax_u I6 a 6 (nI 0)) L6 := hB6.int (j := 0) (k := 6) (v := (nI 0)) (Nat.succ_pos _)
  generalize ax_u I6 a 6 (nI 0) = I7 at hB7 ⊢
  refine x_aload_n C (dk ddX7_init 29 rfl) rfl ?_
  refine x_bipush C (v := nI 12) (dk ddX7_init 30 rfl) (by decide) ?_
  refine x_nai C (by decide) (by have h1 : ax_top G6 = a + 7 := hB7.1; show ax_top G6 + 1 ≤ ax_top G + 13; omega) (by have h1 : ax_used G6 = ax_used G + 172 := hB7.2.1; show ax_used G6 + 12 ≤ ax_used G + 352; omega) (dk ddX7_init 31 rfl) ?_
  refine x_putrF C flX7_34 fw7 rfl rfl rfl rfl (by rw [ax_new_top, hB7.1]; show a < a + 7 + 1; omega) (by rw [ax_new_Kne (by rw [hB7.1]; show a ≠ a + 7; omega)]; exact (show ax_K G6 a = 8 + 7 from (hB7.2.2.1 0 _ rfl).1)) (fun _ => rfl) (fun _ => rfl) (dk ddX7_init 32 rfl) ?_
  have h_ := (hB7.new (k := 0) (n := 12) (sl := 12)).ref (j := 0) (k := 7) (b := List.length ([(15, 0, [(5, 6), (4, 5), (3, 4), (2, 3), (1, 2), (0, 1)]), (0, 6, []), (0, 6, []), (0, 72, []), (0, 8, []), (0, 8, []), (0, 72, [])] : ax_Tb)) rfl rfl
  rw [← hB7.1] at h_
  have hB8 : ax_Bt G I L a (ax_used G + 184) [(15, 0, [(7, 7), (5, 6), (4, 5), (3, 4), (2, 3), (1, 2), (0, 1)]), (0, 6, []), (0, 6, []), (0, 72, []), (0, 8, []), (0, 8, []), (0, 72, []), (0, 12, [])] [fun i => if i = 6 then nI 0 else (fun _ => 0) i, fun _ => 0, fun _ => 0, fun _ => 0, fun _ => 0, fun _ => 0, fun _ => 0, fun _ => 0] (ax_gR (ax_new G6 0 12 12) a 7 (some (ax_top G6))) (ax_z I7 (ax_top G6) 0) (ax_z L6 (ax_top G6) 0) := h_
  clear h_
  generalize ax_gR (ax_new G6 0 12 12) a 7 (some (ax_top G6)) = G8 at hB8 ⊢
  generalize ax_z I7 (ax_top G6) 0 = I8 at hB8 ⊢
  generalize ax_z L6 (ax_top G6) 0 = L8 at hB8 ⊢
  refine x_aload_n C (dk ddX7_init 33 rfl) rfl ?_
  refine x_bipush C (v := nI 12) (dk ddX7_init 34 rfl) (by decide) ?_
  refine x_nai C (by decide) (by have h1 : ax_top G8 = a + 8 := hB8.1; show ax_top G8 + 1 ≤ ax_top G + 13; omega) (by have h1 : ax_used G8 = ax_used G + 184 := hB8.2.1; show ax_used G8 + 12 ≤ ax_used G + 352; omega) (dk ddX7_init 35 rfl) ?_
  refine x_putrF C flX7_37 fw7 rfl rfl rfl rfl (by rw [ax_new_top, hB8.1]; show a < a + 8 + 1; omega) (by rw [ax_new_Kne (by rw [hB8.1]; show a ≠ a + 8; omega)]; exact (show ax_K G8 a = 8 + 7 from (hB8.2.2.1 0 _ rfl).1)) (fun _ => rfl) (fun _ => rfl) (dk ddX7_init 36 rfl) ?_
  have h_ := (hB8.new (k := 0) (n := 12) (sl := 12)).ref (j := 0) (k := 8) (b := List.length ([(15, 0, [(7, 7), (5, 6), (4, 5), (3, 4), (2, 3), (1, 2), (0, 1)]), (0, 6, []), (0, 6, []), (0, 72, []), (0, 8, []), (0, 8, []), (0, 72, []), (0, 12, [])] : ax_Tb)) rfl rfl
  rw [← hB8.1] at h_
  have hB9 : ax_Bt G I L a (ax_used G + 196) [(15, 0, [(8, 8), (7, 7), (5, 6), (4, 5), (3, 4), (2, 3), (1, 2), (0, 1)]), (0, 6, []), (0, 6, []), (0, 72, []), (0, 8, []), (0, 8, []), (0, 72, []), (0, 12, []), (0, 12, [])] [fun i => if i = 6 then nI 0 else (fun _ => 0) i, fun _ => 0, fun _ => 0, fun _ => 0, fun _ => 0, fun _ => 0, fun _ => 0, fun _ => 0, fun _ => 0] (ax_gR (ax_new G8 0 12 12) a 8 (some (ax_top G8))) (ax_z I8 (ax_top G8) 0) (ax_z L8 (ax_top G8) 0) := h_
  clear h_
  generalize ax_gR (ax_new G8 0 12 12) a 8 (some (ax_top G8)) = G9 at hB9 ⊢
  generalize ax_z I8 (ax_top G8) 0 = I9 at hB9 ⊢
  generalize ax_z L8 (ax_top G8) 0 = L9 at hB9 ⊢
  refine x_aload_n C (dk ddX7_init 37 rfl) rfl ?_
  refine x_bipush C (v := nI 12) (dk ddX7_init 38 rfl) (by decide) ?_
  refine x_nai C (by decide) (by have h1 : ax_top G9 = a + 9 := hB9.1; show ax_top G9 + 1 ≤ ax_top G + 13; omega) (by have h1 : ax_used G9 = ax_used G + 196 := hB9.2.1; show ax_used G9 + 12 ≤ ax_used G + 352; omega) (dk ddX7_init 39 rfl) ?_
  refine x_putrF C flX7_40 fw7 rfl rfl rfl rfl (by rw [ax_new_top, hB9.1]; show a < a + 9 + 1; omega) (by rw [ax_new_Kne (by rw [hB9.1]; show a ≠ a + 9; omega)]; exact (show ax_K G9 a = 8 + 7 from (hB9.2.2.1 0 _ rfl).1)) (fun _ => rfl) (fun _ => rfl) (dk ddX7_init 40 rfl) ?_
  have h_ := (hB9.new (k := 0) (n := 12) (sl := 12)).ref (j := 0) (k := 9) (b := List.length ([(15, 0, [(8, 8), (7, 7), (5, 6), (4, 5), (3, 4), (2, 3), (1, 2), (0, 1)]), (0, 6, []), (0, 6, []), (0, 72, []), (0, 8, []), (0, 8, []), (0, 72, []), (0, 12, []), (0, 12, [])] : ax_Tb)) rfl rfl
  rw [← hB9.1] at h_
  have hB10 : ax_Bt G I L a (ax_used G + 208) [(15, 0, [(9, 9), (8, 8), (7, 7), (5, 6), (4, 5), (3, 4), (2, 3), (1, 2), (0, 1)]), (0, 6, []), (0, 6, []), (0, 72, []), (0, 8, []), (0, 8, []), (0, 72, []), (0, 12, []), (0, 12, []), (0, 12, [])] [fun i => if i = 6 then nI 0 else (fun _ => 0) i, fun _ => 0, fun _ => 0, fun _ => 0, fun _ => 0, fun _ => 0, fun _ => 0, fun _ => 0, fun _ => 0, fun _ => 0] (ax_gR (ax_new G9 0 12 12) a 9 (some (ax_top G9))) (ax_z I9 (ax_top G9) 0) (ax_z L9 (ax_top G9) 0) := h_
  clear h_
  generalize ax_gR (ax_new G9 0 12 12) a 9 (some (ax_top G9)) = G10 at hB10 ⊢
  generalize ax_z I9 (ax_top G9) 0 = I10 at hB10 ⊢
  generalize ax_z L9 (ax_top G9) 0 = L10 at hB10 ⊢
  refine x_aload_n C (dk ddX7_init 41 rfl) rfl ?_
  refine x_bipush C (v := nI 12) (dk ddX7_init 42 rfl) (by decide) ?_
  refine x_nai C (by decide) (by have h1 : ax_top G10 = a + 10 := hB10.1; show ax_top G10 + 1 ≤ ax_top G + 13; omega) (by have h1 : ax_used G10 = ax_used G + 208 := hB10.2.1; show ax_used G10 + 12 ≤ ax_used G + 352; omega) (dk ddX7_init 43 rfl) ?_
  refine x_putrF C flX7_43 fw7 rfl rfl rfl rfl (by rw [ax_new_top, hB10.1]; show a < a + 10 + 1; omega) (by rw [ax_new_Kne (by rw [hB10.1]; show a ≠ a + 10; omega)]; exact (show ax_K G10 a = 8 + 7 from (hB10.2.2.1 0 _ rfl).1)) (fun _ => rfl) (fun _ => rfl) (dk ddX7_init 44 rfl) ?_
  have h_ := (hB10.new (k := 0) (n := 12) (sl := 12)).ref (j := 0) (k := 10) (b := List.length ([(15, 0, [(9, 9), (8, 8), (7, 7), (5, 6), (4, 5), (3, 4), (2, 3), (1, 2), (0, 1)]), (0, 6, []), (0, 6, []), (0, 72, []), (0, 8, []), (0, 8, []), (0, 72, []), (0, 12, []), (0, 12, []), (0, 12, [])] : ax_Tb)) rfl rfl
  rw [← hB10.1] at h_
  have hB11 : ax_Bt G I L a (ax_used G + 220) [(15, 0, [(10, 10), (9, 9), (8, 8), (7, 7), (5, 6), (4, 5), (3, 4), (2, 3), (1, 2), (0, 1)]), (0, 6, []), (0, 6, []), (0, 72, []), (0, 8, []), (0, 8, []), (0, 72, []), (0, 12, []), (0, 12, []), (0, 12, []), (0, 12, [])] [fun i => if i = 6 then nI 0 else (fun _ => 0) i, fun _ => 0, fun _ => 0, fun _ => 0, fun _ => 0, fun _ => 0, fun _ => 0, fun _ => 0, fun _ => 0, fun _ => 0, fun _ => 0] (ax_gR (ax_new G10 0 12 12) a 10 (some (ax_top G10))) (ax_z I10 (ax_top G10) 0) (ax_z L10 (ax_top G10) 0) := h_
  clear h_
  generalize ax_gR (ax_new G10 0 12 12) a 10 (some (ax_top G10)) = G11 at hB11 ⊢
  generalize ax_z I10 (ax_top G10) 0 = I11 at hB11 ⊢
  generalize ax_z L10 (ax_top G10) 0 = L11 at hB11 ⊢
  refine x_aload_n C (dk ddX7_init 45 rfl) rfl ?_
  refine x_bipush C (v := nI 12) (dk ddX7_init 46 rfl) (by decide) ?_
  refine x_nai C (by decide) (by have h1 : ax_top G11 = a + 11 := hB11.1; show ax_top G11 + 1 ≤ ax_top G + 13; omega) (by have h1 : ax_used G11 = ax_used G + 220 := hB11.2.1; show ax_used G11 + 12 ≤ ax_used G + 352; omega) (dk ddX7_init 47 rfl) ?_
  refine x_putrF C flX7_46 fw7 rfl rfl rfl rfl (by rw [ax_new_top, hB11.1]; show a < a + 11 + 1; omega) (by rw [ax_new_Kne (by rw [hB11.1]; show a ≠ a + 11; omega)]; exact (show ax_K G11 a = 8 + 7 from (hB11.2.2.1 0 _ rfl).1)) (fun _ => rfl) (fun _ => rfl) (dk ddX7_init 48 rfl) ?_
  have h_ := (hB11.new (k := 0) (n := 12) (sl := 12)).ref (j := 0) (k := 11) (b := List.length ([(15, 0, [(10, 10), (9, 9), (8, 8), (7, 7), (5, 6), (4, 5), (3, 4), (2, 3), (1, 2), (0, 1)]), (0, 6, []), (0, 6, []), (0, 72, []), (0, 8, []), (0, 8, []), (0, 72, []), (0, 12, []), (0, 12, []), (0, 12, []), (0, 12, [])] : ax_Tb)) rfl rfl
  rw [← hB11.1] at h_
  have hB12 : ax_Bt G I L a (ax_used G + 232) [(15, 0, [(11, 11), (10, 10), (9, 9), (8, 8), (7, 7), (5, 6), (4, 5), (3, 4), (2, 3), (1, 2), (0, 1)]), (0, 6, []), (0, 6, []), (0, 72, []), (0, 8, []), (0, 8, []), (0, 72, []), (0, 12, []), (0, 12, []), (0, 12, []), (0, 12, []), (0, 12, [])] [fun i => if i = 6 then nI 0 else (fun _ => 0) i, fun _ => 0, fun _ => 0, fun _ => 0, fun _ => 0, fun _ => 0, fun _ => 0, fun _ => 0, fun _ => 0, fun _ => 0, fun _ => 0, fun _ => 0] (ax_gR (ax_new G11 0 12 12) a 11 (some (ax_top G11))) (ax_z I11 (ax_top G11) 0) (ax_z L11 (ax_top G11) 0) := h_
  clear h_
  generalize ax_gR (ax_new G11 0 12 12) a 11 (some (ax_top G11)) = G12 at hB12 ⊢
  generalize ax_z I11 (ax_top G11) 0 = I12 at hB12 ⊢
  generalize ax_z L11 (ax_top G11) 0 = L12 at hB12 ⊢
  refine x_aload_n C (dk ddX7_init 49 rfl) rfl ?_
  refine x_bipush C (v := nI 12) (dk ddX7_init 50 rfl) (by decide) ?_
  refine x_nai C (by decide) (by have h1 : ax_top G12 = a + 12 := hB12.1; show ax_top G12 + 1 ≤ ax_top G + 13; omega) (by have h1 : ax_used G12 = ax_used G + 232 := hB12.2.1; show ax_used G12 + 12 ≤ ax_used G + 352; omega) (dk ddX7_init 51 rfl) ?_
  refine x_putrF C flX7_49 fw7 rfl rfl rfl rfl (by rw [ax_new_top, hB12.1]; show a < a + 12 + 1; omega) (by rw [ax_new_Kne (by rw [hB12.1]; show a ≠ a + 12; omega)]; exact (show ax_K G12 a = 8 + 7 from (hB12.2.2.1 0 _ rfl).1)) (fun _ => rfl) (fun _ => rfl) (dk ddX7_init 52 rfl) ?_
  have h_ := (hB12.new (k := 0) (n := 12) (sl := 12)).ref (j := 0) (k := 12) (b := List.length ([(15, 0, [(11, 11), (10, 10), (9, 9), (8, 8), (7, 7), (5, 6), (4, 5), (3, 4), (2, 3), (1, 2), (0, 1)]), (0, 6, []), (0, 6, []), (0, 72, []), (0, 8, []), (0, 8, []), (0, 72, []), (0, 12, []), (0, 12, []), (0, 12, []), (0, 12, []), (0, 12, [])] : ax_Tb)) rfl rfl
  rw [← hB12.1] at h_
  have hB13 : ax_Bt G I L a (ax_used G + 244) [(15, 0, [(12, 12), (11, 11), (10, 10), (9, 9), (8, 8), (7, 7), (5, 6), (4, 5), (3, 4), (2, 3), (1, 2), (0, 1)]), (0, 6, []), (0, 6, []), (0, 72, []), (0, 8, []), (0, 8, []), (0, 72, []), (0, 12, []), (0, 12, []), (0, 12, []), (0, 12, []), (0, 12, []), (0, 12, [])] [fun i => if i = 6 then nI 0 else (fun _ => 0) i, fun _ => 0, fun _ => 0, fun _ => 0, fun _ => 0, fun _ => 0, fun _ => 0, fun _ => 0, fun _ => 0, fun _ => 0, fun _ => 0, fun _ => 0, fun _ => 0] (ax_gR (ax_new G12 0 12 12) a 12 (some (ax_top G12))) (ax_z I12 (ax_top G12) 0) (ax_z L12 (ax_top G12) 0) := h_
  clear h_
  generalize ax_gR (ax_new G12 0 12 12) a 12 (some (ax_top G12)) = G13 at hB13 ⊢
  generalize ax_z I12 (ax_top G12) 0 = I13 at hB13 ⊢
  generalize ax_z L12 (ax_top G12) 0 = L13 at hB13 ⊢
  refine x_aload_n C (dk ddX7_init 53 rfl) rfl ?_
  refine x_bipush C (v := nI 108) (dk ddX7_init 54 rfl) (by decide) ?_
  refine x_nai C (by decide) (by have h1 : ax_top G13 = a + 13 := hB13.1; show ax_top G13 + 1 ≤ ax_top G + 13; omega) (by have h1 : ax_used G13 = ax_used G + 244 := hB13.2.1; show ax_used G13 + 108 ≤ ax_used G + 352; omega) (dk ddX7_init 55 rfl) ?_
  refine x_putrF C flX7_52 fw7 rfl rfl rfl rfl (by rw [ax_new_top, hB13.1]; show a < a + 13 + 1; omega) (by rw [ax_new_Kne (by rw [hB13.1]; show a ≠ a + 13; omega)]; exact (show ax_K G13 a = 8 + 7 from (hB13.2.2.1 0 _ rfl).1)) (fun _ => rfl) (fun _ => rfl) (dk ddX7_init 56 rfl) ?_
  have h_ := (hB13.new (k := 0) (n := 108) (sl := 108)).ref (j := 0) (k := 13) (b := List.length ([(15, 0, [(12, 12), (11, 11), (10, 10), (9, 9), (8, 8), (7, 7), (5, 6), (4, 5), (3, 4), (2, 3), (1, 2), (0, 1)]), (0, 6, []), (0, 6, []), (0, 72, []), (0, 8, []), (0, 8, []), (0, 72, []), (0, 12, []), (0, 12, []), (0, 12, []), (0, 12, []), (0, 12, []), (0, 12, [])] : ax_Tb)) rfl rfl
  rw [← hB13.1] at h_
  have hB14 : ax_Bt G I L a (ax_used G + 352) [(15, 0, [(13, 13), (12, 12), (11, 11), (10, 10), (9, 9), (8, 8), (7, 7), (5, 6), (4, 5), (3, 4), (2, 3), (1, 2), (0, 1)]), (0, 6, []), (0, 6, []), (0, 72, []), (0, 8, []), (0, 8, []), (0, 72, []), (0, 12, []), (0, 12, []), (0, 12, []), (0, 12, []), (0, 12, []), (0, 12, []), (0, 108, [])] [fun i => if i = 6 then nI 0 else (fun _ => 0) i, fun _ => 0, fun _ => 0, fun _ => 0, fun _ => 0, fun _ => 0, fun _ => 0, fun _ => 0, fun _ => 0, fun _ => 0, fun _ => 0, fun _ => 0, fun _ => 0, fun _ => 0] (ax_gR (ax_new G13 0 108 108) a 13 (some (ax_top G13))) (ax_z I13 (ax_top G13) 0) (ax_z L13 (ax_top G13) 0) := h_
  clear h_
  generalize ax_gR (ax_new G13 0 108 108) a 13 (some (ax_top G13)) = G14 at hB14 ⊢
  generalize ax_z I13 (ax_top G13) 0 = I14 at hB14 ⊢
  generalize ax_z L13 (ax_top G13) 0 = L14 at hB14 ⊢
  refine x_aload_n C (dk ddX7_init 57 rfl) rfl ?_
  refine x_getr C flX7_21 rfl (by rw [hB14.1]; show a < a + 14; omega) (show ax_K G14 a = 8 + 7 from (hB14.2.2.1 0 _ rfl).1) (show ax_R G14 a 3 = some (a + 4) from (hB14.2.2.1 0 _ rfl).2.2 (3, 4) (by decide)) (dk ddX7_init 58 rfl) ?_
  refine x_iconst C (v := (-1)) (dk ddX7_init 59 rfl) (by decide) ?_
  refine x_callS C (As := [.ref (a + 4), .int (-1)]) (k_J7_fill_53178 l D T o (d - 1) G14 I14 L14 (a + 4) 8 (-1) (by rw [hB14.1]; show a + 4 < a + 14; omega) (hB14.2.2.1 4 _ rfl).1 (hB14.2.2.1 4 _ rfl).2.1 (by decide) (by omega)) mlX7_55 ⟨by show d - 1 + 1 ≤ d; omega, by show 40 * (d - 1 + 1) ≤ 40 * d; omega⟩ ⟨by have h1 : ax_top G14 = a + 14 := hB14.1; show ax_top G14 + 0 ≤ ax_top G + 13; omega, by have h1 : ax_used G14 = ax_used G + 352 := hB14.2.1; show ax_used G14 + 0 ≤ ax_used G + 352; omega⟩ rfl (Nat.le_of_ble_eq_true rfl) (dk ddX7_init 60 rfl) ?_
  rintro v_ G_ I_ L_ ⟨rfl, rfl, rfl, rfl⟩
  have hB15 : ax_Bt G I L a (ax_used G + 352) [(15, 0, [(13, 13), (12, 12), (11, 11), (10, 10), (9, 9), (8, 8), (7, 7), (5, 6), (4, 5), (3, 4), (2, 3), (1, 2), (0, 1)]), (0, 6, []), (0, 6, []), (0, 72, []), (0, 8, []), (0, 8, []), (0, 72, []), (0, 12, []), (0, 12, []), (0, 12, []), (0, 12, []), (0, 12, []), (0, 12, []), (0, 108, [])] [fun i => if i = 6 then nI 0 else (fun _ => 0) i, fun _ => 0, fun _ => 0, fun _ => 0, fun j => if j < 8 then (-1) else 0, fun _ => 0, fun _ => 0, fun _ => 0, fun _ => 0, fun _ => 0, fun _ => 0, fun _ => 0, fun _ => 0, fun _ => 0] G14 (ax_fl1 (a + 4) (-1) 8 I14) L14 := hB14.upd (j := 4) (f := fun j => if j < 8 then (-1) else 0) (by decide) (fun b hb => by rw [ax_fl1_eq]; funext i; exact if_neg (fun z => hb z.1)) (by rw [ax_fl1_eq]; funext i; have h7 := congrFun (hB14.2.2.2.2.2.2.1 4 _ rfl) i; show (if a + 4 = a + 4 ∧ i < 8 then (-1) else I14 (a + 4) i) = if i < 8 then (-1) else 0; by_cases hi : i < 8; rw [if_pos ⟨rfl, hi⟩, if_pos hi]; rw [if_neg (fun z => hi z.2), if_neg hi]; exact h7)
  generalize ax_fl1 (a + 4) (-1) 8 I14 = I15 at hB15 ⊢
  refine x_aload_n C (dk ddX7_init 61 rfl) rfl ?_
  refine x_getr C flX7_24 rfl (by rw [hB15.1]; show a < a + 14; omega) (show ax_K G14 a = 8 + 7 from (hB15.2.2.1 0 _ rfl).1) (show ax_R G14 a 4 = some (a + 5) from (hB15.2.2.1 0 _ rfl).2.2 (4, 5) (by decide)) (dk ddX7_init 62 rfl) ?_
  refine x_iconst C (v := (-1)) (dk ddX7_init 63 rfl) (by decide) ?_
  refine x_callS C (As := [.ref (a + 5), .int (-1)]) (k_J7_fill_53178 l D T o (d - 1) G14 I15 L14 (a + 5) 8 (-1) (by rw [hB15.1]; show a + 5 < a + 14; omega) (hB15.2.2.1 5 _ rfl).1 (hB15.2.2.1 5 _ rfl).2.1 (by decide) (by omega)) mlX7_55 ⟨by show d - 1 + 1 ≤ d; omega, by show 40 * (d - 1 + 1) ≤ 40 * d; omega⟩ ⟨by have h1 : ax_top G14 = a + 14 := hB15.1; show ax_top G14 + 0 ≤ ax_top G + 13; omega, by have h1 : ax_used G14 = ax_used G + 352 := hB15.2.1; show ax_used G14 + 0 ≤ ax_used G + 352; omega⟩ rfl (Nat.le_of_ble_eq_true rfl) (dk ddX7_init 64 rfl) ?_
  rintro v_ G_ I_ L_ ⟨rfl, rfl, rfl, rfl⟩
  have hB16 : ax_Bt G I L a (ax_used G + 352) [(15, 0, [(13, 13), (12, 12), (11, 11), (10, 10), (9, 9), (8, 8), (7, 7), (5, 6), (4, 5), (3, 4), (2, 3), (1, 2), (0, 1)]), (0, 6, []), (0, 6, []), (0, 72, []), (0, 8, []), (0, 8, []), (0, 72, []), (0, 12, []), (0, 12, []), (0, 12, []), (0, 12, []), (0, 12, []), (0, 12, []), (0, 108, [])] [fun i => if i = 6 then nI 0 else (fun _ => 0) i, fun _ => 0, fun _ => 0, fun _ => 0, fun j => if j < 8 then (-1) else 0, fun j => if j < 8 then (-1) else 0, fun _ => 0, fun _ => 0, fun _ => 0, fun _ => 0, fun _ => 0, fun _ => 0, fun _ => 0, fun _ => 0] G14 (ax_fl1 (a + 5) (-1) 8 I15) L14 := hB15.upd (j := 5) (f := fun j => if j < 8 then (-1) else 0) (by decide) (fun b hb => by rw [ax_fl1_eq]; funext i; exact if_neg (fun z => hb z.1)) (by rw [ax_fl1_eq]; funext i; have h7 := congrFun (hB15.2.2.2.2.2.2.1 5 _ rfl) i; show (if a + 5 = a + 5 ∧ i < 8 then (-1) else I15 (a + 5) i) = if i < 8 then (-1) else 0; by_cases hi : i < 8; rw [if_pos ⟨rfl, hi⟩, if_pos hi]; rw [if_neg (fun z => hi z.2), if_neg hi]; exact h7)
  generalize ax_fl1 (a + 5) (-1) 8 I15 = I16 at hB16 ⊢
  exact x_vret C rfl ⟨rfl, hB16⟩ (by have h1 : ax_top G14 = a + 14 := hB16.1; show ax_top G14 = ax_top G + 13; omega) hB16.2.1 (dk ddX7_init 65 rfl)

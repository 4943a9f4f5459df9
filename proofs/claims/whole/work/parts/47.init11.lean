/-! ===== the reference is made ===== -/
def ax_f4 : Nat → Int32 := fun j => if j = 3 then -1 else if j = 2 then -1 else if j = 1 then -1 else if j = 0 then -1 else 0
/-- what stands in the reference's arrays at first -/
def ax_mf : List (Nat → Int32) := [fun _ => 0, fun _ => 0, fun _ => 0, fun _ => 0, fun _ => 0, fun _ => 0, fun _ => 0, fun _ => 0, fun _ => 0, fun _ => 0, fun _ => 0, fun _ => 0, fun _ => 0, fun _ => 0, fun _ => 0, fun _ => 0, fun _ => 0, fun _ => 0, fun _ => 0, fun _ => 0, fun _ => 0, fun _ => 0, fun _ => 0, fun _ => 0, fun _ => 0, fun _ => 0, fun _ => 0, ax_f4, fun _ => 0, fun _ => 0, ax_f4, fun _ => 0, fun _ => 0]
/-- no map is set, the first so many -/
def ax_m0 (m : Nat) : Nat → ax_I → ax_I
  | 0, I => I
  | n + 1, I => ax_u (ax_m0 m n I) (m + 1) (84 + 11 * n) (-1)
set_option maxRecDepth 20000 in
/-- the reference's constructor -/
theorem k_X11_init (l : Launch) (D : va_G) (T : Nat → ClassId) (o d : Nat) (G : ax_G) (I : ax_I) (L : ax_L) (m : Nat) (ht : ax_top G = m + 1) (hK : ax_K G m = 8 + 11) (hd : 1 ≤ d) : ax_Con l D T o yX11_init cX11_init 2 none d 33 9367 [.ref m] G I L (fun v G' I' L' => v = none ∧ ∃ I1, ax_Bd G I L m 11 (ax_used G + 9367) ax_mt ax_mf G' I1 L' ∧ ax_m0 m 8 I1 = I') := by
  refine ax_enter (by decide +kernel) (Nat.le_of_ble_eq_true rfl) ?_
  intro p_ e_ s_ m_ args_ below_ meth_ c_ C _
  refine x_lvs (lv' := [(0, .ref m)]) rfl ?_
  have hB0 : ax_Bd G I L m 11 (ax_used G) [] [] G I L := ⟨ht, rfl, hK, (fun j x h => by cases h), fun b _ => ⟨rfl, rfl, rfl⟩, fun b _ => ⟨rfl, rfl⟩, (fun j h => absurd h (Nat.not_lt_zero j)), rfl, (fun j f h => by cases h)⟩
  refine x_aload_n C (dk ddX11_init 0 rfl) rfl ?_
  refine x_obj C (ax_inT 5 85 (by decide +kernel)) (ax_inT 1 22 (by decide +kernel)) (ax_inC 1 23 rfl) ⟨hd, by show 40 ≤ 40 * d; omega⟩ (Nat.le_of_ble_eq_true rfl) (dk ddX11_init 1 rfl) ?_
  refine x_aload_n C (dk ddX11_init 2 rfl) rfl ?_
  refine x_sipush C (v := nI 353) (dk ddX11_init 3 rfl) (by decide) ?_
  refine x_fldi C hB0 flX11_7 fw11 rfl rfl rfl rfl (fun _ => rfl) (fun _ => rfl) rfl (by decide) (by show m + 1 + 0 + 1 ≤ ax_top G + 33; omega) (by show ax_used G + 353 ≤ ax_used G + 9367; omega) (dk ddX11_init 4 rfl) (dk ddX11_init 5 rfl) (fun G1 I1 L1 hB1 => ?_)
  refine x_aload_n C (dk ddX11_init 6 rfl) rfl ?_
  refine x_sipush C (v := nI 353) (dk ddX11_init 7 rfl) (by decide) ?_
  refine x_fldi C hB1 flX11_13 fw11 rfl rfl rfl rfl (fun _ => rfl) (fun _ => rfl) rfl (by decide) (by show m + 1 + 1 + 1 ≤ ax_top G + 33; omega) (by show ax_used G + 353 + 353 ≤ ax_used G + 9367; omega) (dk ddX11_init 8 rfl) (dk ddX11_init 9 rfl) (fun G2 I2 L2 hB2 => ?_)
  refine x_aload_n C (dk ddX11_init 10 rfl) rfl ?_
  refine x_sipush C (v := nI 7060) (dk ddX11_init 11 rfl) (by decide) ?_
  refine x_fldi C hB2 flX11_16 fw11 rfl rfl rfl rfl (fun _ => rfl) (fun _ => rfl) rfl (by decide) (by show m + 1 + 2 + 1 ≤ ax_top G + 33; omega) (by show ax_used G + 706 + 7060 ≤ ax_used G + 9367; omega) (dk ddX11_init 12 rfl) (dk ddX11_init 13 rfl) (fun G3 I3 L3 hB3 => ?_)
  refine x_aload_n C (dk ddX11_init 14 rfl) rfl ?_
  refine x_bipush C (v := nI 96) (dk ddX11_init 15 rfl) (by decide) ?_
  refine x_fldl C hB3 flX11_19 fw11 rfl rfl rfl rfl (fun _ => rfl) (fun _ => rfl) rfl (by decide) (by show m + 1 + 3 + 1 ≤ ax_top G + 33; omega) (by show ax_used G + 7766 + 96 ≤ ax_used G + 9367; omega) (dk ddX11_init 16 rfl) (dk ddX11_init 17 rfl) (fun G4 I4 L4 hB4 => ?_)
  refine x_aload_n C (dk ddX11_init 18 rfl) rfl ?_
  refine x_bipush C (v := nI 36) (dk ddX11_init 19 rfl) (by decide) ?_
  refine x_fldl C hB4 flX11_23 fw11 rfl rfl rfl rfl (fun _ => rfl) (fun _ => rfl) rfl (by decide) (by show m + 1 + 4 + 1 ≤ ax_top G + 33; omega) (by show ax_used G + 7862 + 36 ≤ ax_used G + 9367; omega) (dk ddX11_init 20 rfl) (dk ddX11_init 21 rfl) (fun G5 I5 L5 hB5 => ?_)
  refine x_aload_n C (dk ddX11_init 22 rfl) rfl ?_
  refine x_bipush C (v := nI 36) (dk ddX11_init 23 rfl) (by decide) ?_
  refine x_fldl C hB5 flX11_26 fw11 rfl rfl rfl rfl (fun _ => rfl) (fun _ => rfl) rfl (by decide) (by show m + 1 + 5 + 1 ≤ ax_top G + 33; omega) (by show ax_used G + 7898 + 36 ≤ ax_used G + 9367; omega) (dk ddX11_init 24 rfl) (dk ddX11_init 25 rfl) (fun G6 I6 L6 hB6 => ?_)
  refine x_aload_n C (dk ddX11_init 26 rfl) rfl ?_
  refine x_bipush C (v := nI 36) (dk ddX11_init 27 rfl) (by decide) ?_
  refine x_fldl C hB6 flX11_29 fw11 rfl rfl rfl rfl (fun _ => rfl) (fun _ => rfl) rfl (by decide) (by show m + 1 + 6 + 1 ≤ ax_top G + 33; omega) (by show ax_used G + 7934 + 36 ≤ ax_used G + 9367; omega) (dk ddX11_init 28 rfl) (dk ddX11_init 29 rfl) (fun G7 I7 L7 hB7 => ?_)
  refine x_aload_n C (dk ddX11_init 30 rfl) rfl ?_
  refine x_bipush C (v := nI 36) (dk ddX11_init 31 rfl) (by decide) ?_
  refine x_fldl C hB7 flX11_32 fw11 rfl rfl rfl rfl (fun _ => rfl) (fun _ => rfl) rfl (by decide) (by show m + 1 + 7 + 1 ≤ ax_top G + 33; omega) (by show ax_used G + 7970 + 36 ≤ ax_used G + 9367; omega) (dk ddX11_init 32 rfl) (dk ddX11_init 33 rfl) (fun G8 I8 L8 hB8 => ?_)
  refine x_aload_n C (dk ddX11_init 34 rfl) rfl ?_
  refine x_bipush C (v := nI 36) (dk ddX11_init 35 rfl) (by decide) ?_
  refine x_fldl C hB8 flX11_35 fw11 rfl rfl rfl rfl (fun _ => rfl) (fun _ => rfl) rfl (by decide) (by show m + 1 + 8 + 1 ≤ ax_top G + 33; omega) (by show ax_used G + 8006 + 36 ≤ ax_used G + 9367; omega) (dk ddX11_init 36 rfl) (dk ddX11_init 37 rfl) (fun G9 I9 L9 hB9 => ?_)
  refine x_aload_n C (dk ddX11_init 38 rfl) rfl ?_
  refine x_bipush C (v := nI 6) (dk ddX11_init 39 rfl) (by decide) ?_
  refine x_fldl C hB9 flX11_38 fw11 rfl rfl rfl rfl (fun _ => rfl) (fun _ => rfl) rfl (by decide) (by show m + 1 + 9 + 1 ≤ ax_top G + 33; omega) (by show ax_used G + 8042 + 6 ≤ ax_used G + 9367; omega) (dk ddX11_init 40 rfl) (dk ddX11_init 41 rfl) (fun G10 I10 L10 hB10 => ?_)
  refine x_aload_n C (dk ddX11_init 42 rfl) rfl ?_
  refine x_bipush C (v := nI 6) (dk ddX11_init 43 rfl) (by decide) ?_
  refine x_fldl C hB10 flX11_41 fw11 rfl rfl rfl rfl (fun _ => rfl) (fun _ => rfl) rfl (by decide) (by show m + 1 + 10 + 1 ≤ ax_top G + 33; omega) (by show ax_used G + 8048 + 6 ≤ ax_used G + 9367; omega) (dk ddX11_init 44 rfl) (dk ddX11_init 45 rfl) (fun G11 I11 L11 hB11 => ?_)
  refine x_aload_n C (dk ddX11_init 46 rfl) rfl ?_
  refine x_bipush C (v := nI 24) (dk ddX11_init 47 rfl) (by decide) ?_
  refine x_fldl C hB11 flX11_44 fw11 rfl rfl rfl rfl (fun _ => rfl) (fun _ => rfl) rfl (by decide) (by show m + 1 + 11 + 1 ≤ ax_top G + 33; omega) (by show ax_used G + 8054 + 24 ≤ ax_used G + 9367; omega) (dk ddX11_init 48 rfl) (dk ddX11_init 49 rfl) (fun G12 I12 L12 hB12 => ?_)
  refine x_aload_n C (dk ddX11_init 50 rfl) rfl ?_
  refine x_bipush C (v := nI 9) (dk ddX11_init 51 rfl) (by decide) ?_
  refine x_fldl C hB12 flX11_47 fw11 rfl rfl rfl rfl (fun _ => rfl) (fun _ => rfl) rfl (by decide) (by show m + 1 + 12 + 1 ≤ ax_top G + 33; omega) (by show ax_used G + 8078 + 9 ≤ ax_used G + 9367; omega) (dk ddX11_init 52 rfl) (dk ddX11_init 53 rfl) (fun G13 I13 L13 hB13 => ?_)
  refine x_aload_n C (dk ddX11_init 54 rfl) rfl ?_
  refine x_iconst C (v := nI 3) (dk ddX11_init 55 rfl) (by decide) ?_
  refine x_fldl C hB13 flX11_50 fw11 rfl rfl rfl rfl (fun _ => rfl) (fun _ => rfl) rfl (by decide) (by show m + 1 + 13 + 1 ≤ ax_top G + 33; omega) (by show ax_used G + 8087 + 3 ≤ ax_used G + 9367; omega) (dk ddX11_init 56 rfl) (dk ddX11_init 57 rfl) (fun G14 I14 L14 hB14 => ?_)
  refine x_aload_n C (dk ddX11_init 58 rfl) rfl ?_
  refine x_bipush C (v := nI 9) (dk ddX11_init 59 rfl) (by decide) ?_
  refine x_fldl C hB14 flX11_53 fw11 rfl rfl rfl rfl (fun _ => rfl) (fun _ => rfl) rfl (by decide) (by show m + 1 + 14 + 1 ≤ ax_top G + 33; omega) (by show ax_used G + 8090 + 9 ≤ ax_used G + 9367; omega) (dk ddX11_init 60 rfl) (dk ddX11_init 61 rfl) (fun G15 I15 L15 hB15 => ?_)
  refine x_aload_n C (dk ddX11_init 62 rfl) rfl ?_
  refine x_bipush C (v := nI 6) (dk ddX11_init 63 rfl) (by decide) ?_
  refine x_fldl C hB15 flX11_56 fw11 rfl rfl rfl rfl (fun _ => rfl) (fun _ => rfl) rfl (by decide) (by show m + 1 + 15 + 1 ≤ ax_top G + 33; omega) (by show ax_used G + 8099 + 6 ≤ ax_used G + 9367; omega) (dk ddX11_init 64 rfl) (dk ddX11_init 65 rfl) (fun G16 I16 L16 hB16 => ?_)
  refine x_aload_n C (dk ddX11_init 66 rfl) rfl ?_
  refine x_bipush C (v := nI 36) (dk ddX11_init 67 rfl) (by decide) ?_
  refine x_fldl C hB16 flX11_59 fw11 rfl rfl rfl rfl (fun _ => rfl) (fun _ => rfl) rfl (by decide) (by show m + 1 + 16 + 1 ≤ ax_top G + 33; omega) (by show ax_used G + 8105 + 36 ≤ ax_used G + 9367; omega) (dk ddX11_init 68 rfl) (dk ddX11_init 69 rfl) (fun G17 I17 L17 hB17 => ?_)
  refine x_aload_n C (dk ddX11_init 70 rfl) rfl ?_
  refine x_bipush C (v := nI 100) (dk ddX11_init 71 rfl) (by decide) ?_
  refine x_fldb C hB17 flX11_62 fw11 rfl rfl rfl rfl (fun _ => rfl) (fun _ => rfl) rfl (by decide) (by show m + 1 + 17 + 1 ≤ ax_top G + 33; omega) (by show ax_used G + 8141 + 100 ≤ ax_used G + 9367; omega) (dk ddX11_init 72 rfl) (dk ddX11_init 73 rfl) (fun G18 I18 L18 hB18 => ?_)
  refine x_aload_n C (dk ddX11_init 74 rfl) rfl ?_
  refine x_sipush C (v := nI 200) (dk ddX11_init 75 rfl) (by decide) ?_
  refine x_fldi C hB18 flX11_66 fw11 rfl rfl rfl rfl (fun _ => rfl) (fun _ => rfl) rfl (by decide) (by show m + 1 + 18 + 1 ≤ ax_top G + 33; omega) (by show ax_used G + 8241 + 200 ≤ ax_used G + 9367; omega) (dk ddX11_init 76 rfl) (dk ddX11_init 77 rfl) (fun G19 I19 L19 hB19 => ?_)
  refine x_aload_n C (dk ddX11_init 78 rfl) rfl ?_
  refine x_bipush C (v := nI 64) (dk ddX11_init 79 rfl) (by decide) ?_
  refine x_fldi C hB19 flX11_69 fw11 rfl rfl rfl rfl (fun _ => rfl) (fun _ => rfl) rfl (by decide) (by show m + 1 + 19 + 1 ≤ ax_top G + 33; omega) (by show ax_used G + 8441 + 64 ≤ ax_used G + 9367; omega) (dk ddX11_init 80 rfl) (dk ddX11_init 81 rfl) (fun G20 I20 L20 hB20 => ?_)
  refine x_aload_n C (dk ddX11_init 82 rfl) rfl ?_
  refine x_bipush C (v := nI 64) (dk ddX11_init 83 rfl) (by decide) ?_
  refine x_fldi C hB20 flX11_72 fw11 rfl rfl rfl rfl (fun _ => rfl) (fun _ => rfl) rfl (by decide) (by show m + 1 + 20 + 1 ≤ ax_top G + 33; omega) (by show ax_used G + 8505 + 64 ≤ ax_used G + 9367; omega) (dk ddX11_init 84 rfl) (dk ddX11_init 85 rfl) (fun G21 I21 L21 hB21 => ?_)
  refine x_aload_n C (dk ddX11_init 86 rfl) rfl ?_
  refine x_sipush C (v := nI 576) (dk ddX11_init 87 rfl) (by decide) ?_
  refine x_fldl C hB21 flX11_75 fw11 rfl rfl rfl rfl (fun _ => rfl) (fun _ => rfl) rfl (by decide) (by show m + 1 + 21 + 1 ≤ ax_top G + 33; omega) (by show ax_used G + 8569 + 576 ≤ ax_used G + 9367; omega) (dk ddX11_init 88 rfl) (dk ddX11_init 89 rfl) (fun G22 I22 L22 hB22 => ?_)
  refine x_aload_n C (dk ddX11_init 90 rfl) rfl ?_
  refine x_bipush C (v := nI 9) (dk ddX11_init 91 rfl) (by decide) ?_
  refine x_fldl C hB22 flX11_78 fw11 rfl rfl rfl rfl (fun _ => rfl) (fun _ => rfl) rfl (by decide) (by show m + 1 + 22 + 1 ≤ ax_top G + 33; omega) (by show ax_used G + 9145 + 9 ≤ ax_used G + 9367; omega) (dk ddX11_init 92 rfl) (dk ddX11_init 93 rfl) (fun G23 I23 L23 hB23 => ?_)
  refine x_aload_n C (dk ddX11_init 94 rfl) rfl ?_
  refine x_bipush C (v := nI 7) (dk ddX11_init 95 rfl) (by decide) ?_
  refine x_fldi C hB23 flX11_81 fw11 rfl rfl rfl rfl (fun _ => rfl) (fun _ => rfl) rfl (by decide) (by show m + 1 + 23 + 1 ≤ ax_top G + 33; omega) (by show ax_used G + 9154 + 7 ≤ ax_used G + 9367; omega) (dk ddX11_init 96 rfl) (dk ddX11_init 97 rfl) (fun G24 I24 L24 hB24 => ?_)
  refine x_aload_n C (dk ddX11_init 98 rfl) rfl ?_
  refine x_bipush C (v := nI 6) (dk ddX11_init 99 rfl) (by decide) ?_
  refine x_fldl C hB24 flX11_84 fw11 rfl rfl rfl rfl (fun _ => rfl) (fun _ => rfl) rfl (by decide) (by show m + 1 + 24 + 1 ≤ ax_top G + 33; omega) (by show ax_used G + 9161 + 6 ≤ ax_used G + 9367; omega) (dk ddX11_init_p1 0 rfl) (dk ddX11_init_p1 1 rfl) (fun G25 I25 L25 hB25 => ?_)
  refine x_aload_n C (dk ddX11_init_p1 2 rfl) rfl ?_
  refine x_bipush C (v := nI 6) (dk ddX11_init_p1 3 rfl) (by decide) ?_
  refine x_fldl C hB25 flX11_87 fw11 rfl rfl rfl rfl (fun _ => rfl) (fun _ => rfl) rfl (by decide) (by show m + 1 + 25 + 1 ≤ ax_top G + 33; omega) (by show ax_used G + 9167 + 6 ≤ ax_used G + 9367; omega) (dk ddX11_init_p1 4 rfl) (dk ddX11_init_p1 5 rfl) (fun G26 I26 L26 hB26 => ?_)
  refine x_aload_n C (dk ddX11_init_p1 6 rfl) rfl ?_
  refine x_bipush C (v := nI 6) (dk ddX11_init_p1 7 rfl) (by decide) ?_
  refine x_fldl C hB26 flX11_90 fw11 rfl rfl rfl rfl (fun _ => rfl) (fun _ => rfl) rfl (by decide) (by show m + 1 + 26 + 1 ≤ ax_top G + 33; omega) (by show ax_used G + 9173 + 6 ≤ ax_used G + 9367; omega) (dk ddX11_init_p1 8 rfl) (dk ddX11_init_p1 9 rfl) (fun G27 I27 L27 hB27 => ?_)
  refine x_aload_n C (dk ddX11_init_p1 10 rfl) rfl ?_
  refine x_iconst C (v := nI 4) (dk ddX11_init_p1 11 rfl) (by decide) ?_
  refine x_nai C (by decide) (by rw [hB27.1]; exact (by show m + 1 + 27 + 1 ≤ ax_top G + 33; omega)) (by rw [hB27.2.1]; exact (by show ax_used G + 9179 + 4 ≤ ax_used G + 9367; omega)) (dk ddX11_init_p1 12 rfl) ?_
  refine x_dup C (dk ddX11_init_p1 13 rfl) rfl ?_
  refine x_iconst C (v := nI 0) (dk ddX11_init_p1 14 rfl) (by decide) ?_
  refine x_iconst C (v := (-1)) (dk ddX11_init_p1 15 rfl) (by decide) ?_
  refine x_iast_n (n := 4) C (by rw [ax_new_top]; exact Nat.lt_succ_self _) (ax_new_K _ _ _ _) (ax_new_N _ _ _ _) (by decide) (by decide) (dk ddX11_init_p1 16 rfl) ?_
  refine x_dup C (dk ddX11_init_p1 17 rfl) rfl ?_
  refine x_iconst C (v := nI 1) (dk ddX11_init_p1 18 rfl) (by decide) ?_
  refine x_iconst C (v := (-1)) (dk ddX11_init_p1 19 rfl) (by decide) ?_
  refine x_iast_n (n := 4) C (by rw [ax_new_top]; exact Nat.lt_succ_self _) (ax_new_K _ _ _ _) (ax_new_N _ _ _ _) (by decide) (by decide) (dk ddX11_init_p1 20 rfl) ?_
  refine x_dup C (dk ddX11_init_p1 21 rfl) rfl ?_
  refine x_iconst C (v := nI 2) (dk ddX11_init_p1 22 rfl) (by decide) ?_
  refine x_iconst C (v := (-1)) (dk ddX11_init_p1 23 rfl) (by decide) ?_
  refine x_iast_n (n := 4) C (by rw [ax_new_top]; exact Nat.lt_succ_self _) (ax_new_K _ _ _ _) (ax_new_N _ _ _ _) (by decide) (by decide) (dk ddX11_init_p1 24 rfl) ?_
  refine x_dup C (dk ddX11_init_p1 25 rfl) rfl ?_
  refine x_iconst C (v := nI 3) (dk ddX11_init_p1 26 rfl) (by decide) ?_
  refine x_iconst C (v := (-1)) (dk ddX11_init_p1 27 rfl) (by decide) ?_
  refine x_iast_n (n := 4) C (by rw [ax_new_top]; exact Nat.lt_succ_self _) (ax_new_K _ _ _ _) (ax_new_N _ _ _ _) (by decide) (by decide) (dk ddX11_init_p1 28 rfl) ?_
  refine x_putrF C flX11_93 fw11 rfl rfl rfl rfl (by rw [ax_new_top]; have := hB27.top; omega) (by rw [ax_new_Kne (by have := hB27.top; omega)]; exact hB27.2.2.1) (fun _ => rfl) (fun _ => rfl) (dk ddX11_init_p1 29 rfl) ?_
  have hB28 := hB27.push (k := 40) (kd := 0) (n := 4) (f := ax_f4) (I' := (ax_u (ax_u (ax_u (ax_u (ax_z I27 (ax_top G27) 0) (ax_top G27) 0 (-1)) (ax_top G27) 1 (-1)) (ax_top G27) 2 (-1)) (ax_top G27) 3 (-1))) (by decide) (fun b hb => by rw [ax_u_ne hb, ax_u_ne hb, ax_u_ne hb, ax_u_ne hb, ax_z_ne hb]) (by rw [ax_u_eq, ax_u_eq, ax_u_eq, ax_u_eq, ax_z_eq]; rfl)
  generalize ax_gR (ax_new G27 0 4 4) m 40 (some (ax_top G27)) = G28 at hB28 ⊢
  generalize (ax_u (ax_u (ax_u (ax_u (ax_z I27 (ax_top G27) 0) (ax_top G27) 0 (-1)) (ax_top G27) 1 (-1)) (ax_top G27) 2 (-1)) (ax_top G27) 3 (-1)) = I28 at hB28 ⊢
  generalize ax_z L27 (ax_top G27) 0 = L28 at hB28 ⊢
  refine x_aload_n C (dk ddX11_init_p1 30 rfl) rfl ?_
  refine x_iconst C (v := nI 4) (dk ddX11_init_p1 31 rfl) (by decide) ?_
  refine x_fldi C hB28 flX11_96 fw11 rfl rfl rfl rfl (fun _ => rfl) (fun _ => rfl) rfl (by decide) (by show m + 1 + 28 + 1 ≤ ax_top G + 33; omega) (by show ax_used G + 9183 + 4 ≤ ax_used G + 9367; omega) (dk ddX11_init_p1 32 rfl) (dk ddX11_init_p1 33 rfl) (fun G29 I29 L29 hB29 => ?_)
  refine x_aload_n C (dk ddX11_init_p1 34 rfl) rfl ?_
  refine x_sipush C (v := nI 160) (dk ddX11_init_p1 35 rfl) (by decide) ?_
  refine x_fldl C hB29 flX11_99 fw11 rfl rfl rfl rfl (fun _ => rfl) (fun _ => rfl) rfl (by decide) (by show m + 1 + 29 + 1 ≤ ax_top G + 33; omega) (by show ax_used G + 9187 + 160 ≤ ax_used G + 9367; omega) (dk ddX11_init_p1 36 rfl) (dk ddX11_init_p1 37 rfl) (fun G30 I30 L30 hB30 => ?_)
  refine x_aload_n C (dk ddX11_init_p1 38 rfl) rfl ?_
  refine x_iconst C (v := nI 4) (dk ddX11_init_p1 39 rfl) (by decide) ?_
  refine x_nai C (by decide) (by rw [hB30.1]; exact (by show m + 1 + 30 + 1 ≤ ax_top G + 33; omega)) (by rw [hB30.2.1]; exact (by show ax_used G + 9347 + 4 ≤ ax_used G + 9367; omega)) (dk ddX11_init_p1 40 rfl) ?_
  refine x_dup C (dk ddX11_init_p1 41 rfl) rfl ?_
  refine x_iconst C (v := nI 0) (dk ddX11_init_p1 42 rfl) (by decide) ?_
  refine x_iconst C (v := (-1)) (dk ddX11_init_p1 43 rfl) (by decide) ?_
  refine x_iast_n (n := 4) C (by rw [ax_new_top]; exact Nat.lt_succ_self _) (ax_new_K _ _ _ _) (ax_new_N _ _ _ _) (by decide) (by decide) (dk ddX11_init_p1 44 rfl) ?_
  refine x_dup C (dk ddX11_init_p1 45 rfl) rfl ?_
  refine x_iconst C (v := nI 1) (dk ddX11_init_p1 46 rfl) (by decide) ?_
  refine x_iconst C (v := (-1)) (dk ddX11_init_p1 47 rfl) (by decide) ?_
  refine x_iast_n (n := 4) C (by rw [ax_new_top]; exact Nat.lt_succ_self _) (ax_new_K _ _ _ _) (ax_new_N _ _ _ _) (by decide) (by decide) (dk ddX11_init_p1 48 rfl) ?_
  refine x_dup C (dk ddX11_init_p1 49 rfl) rfl ?_
  refine x_iconst C (v := nI 2) (dk ddX11_init_p1 50 rfl) (by decide) ?_
  refine x_iconst C (v := (-1)) (dk ddX11_init_p1 51 rfl) (by decide) ?_
  refine x_iast_n (n := 4) C (by rw [ax_new_top]; exact Nat.lt_succ_self _) (ax_new_K _ _ _ _) (ax_new_N _ _ _ _) (by decide) (by decide) (dk ddX11_init_p1 52 rfl) ?_
  refine x_dup C (dk ddX11_init_p1 53 rfl) rfl ?_
  refine x_iconst C (v := nI 3) (dk ddX11_init_p1 54 rfl) (by decide) ?_
  refine x_iconst C (v := (-1)) (dk ddX11_init_p1 55 rfl) (by decide) ?_
  refine x_iast_n (n := 4) C (by rw [ax_new_top]; exact Nat.lt_succ_self _) (ax_new_K _ _ _ _) (ax_new_N _ _ _ _) (by decide) (by decide) (dk ddX11_init_p1 56 rfl) ?_
  refine x_putrF C flX11_102 fw11 rfl rfl rfl rfl (by rw [ax_new_top]; have := hB30.top; omega) (by rw [ax_new_Kne (by have := hB30.top; omega)]; exact hB30.2.2.1) (fun _ => rfl) (fun _ => rfl) (dk ddX11_init_p1 57 rfl) ?_
  have hB31 := hB30.push (k := 43) (kd := 0) (n := 4) (f := ax_f4) (I' := (ax_u (ax_u (ax_u (ax_u (ax_z I30 (ax_top G30) 0) (ax_top G30) 0 (-1)) (ax_top G30) 1 (-1)) (ax_top G30) 2 (-1)) (ax_top G30) 3 (-1))) (by decide) (fun b hb => by rw [ax_u_ne hb, ax_u_ne hb, ax_u_ne hb, ax_u_ne hb, ax_z_ne hb]) (by rw [ax_u_eq, ax_u_eq, ax_u_eq, ax_u_eq, ax_z_eq]; rfl)
  generalize ax_gR (ax_new G30 0 4 4) m 43 (some (ax_top G30)) = G31 at hB31 ⊢
  generalize (ax_u (ax_u (ax_u (ax_u (ax_z I30 (ax_top G30) 0) (ax_top G30) 0 (-1)) (ax_top G30) 1 (-1)) (ax_top G30) 2 (-1)) (ax_top G30) 3 (-1)) = I31 at hB31 ⊢
  generalize ax_z L30 (ax_top G30) 0 = L31 at hB31 ⊢
  refine x_aload_n C (dk ddX11_init_p1 58 rfl) rfl ?_
  refine x_iconst C (v := nI 4) (dk ddX11_init_p1 59 rfl) (by decide) ?_
  refine x_fldi C hB31 flX11_105 fw11 rfl rfl rfl rfl (fun _ => rfl) (fun _ => rfl) rfl (by decide) (by show m + 1 + 31 + 1 ≤ ax_top G + 33; omega) (by show ax_used G + 9351 + 4 ≤ ax_used G + 9367; omega) (dk ddX11_init_p1 60 rfl) (dk ddX11_init_p1 61 rfl) (fun G32 I32 L32 hB32 => ?_)
  refine x_aload_n C (dk ddX11_init_p1 62 rfl) rfl ?_
  refine x_bipush C (v := nI 12) (dk ddX11_init_p1 63 rfl) (by decide) ?_
  refine x_fldl C hB32 flX11_108 fw11 rfl rfl rfl rfl (fun _ => rfl) (fun _ => rfl) rfl (by decide) (by show m + 1 + 32 + 1 ≤ ax_top G + 33; omega) (by show ax_used G + 9355 + 12 ≤ ax_used G + 9367; omega) (dk ddX11_init_p1 64 rfl) (dk ddX11_init_p1 65 rfl) (fun G33 I33 L33 hB33 => ?_)
  have hT : ax_top G33 = m + 1 + 33 := hB33.1
  have hL : ax_Bd G I L m 11 (ax_used G + 9367) ax_mt ax_mf G33 I33 L33 := by have h := hB33; simp only [Nat.add_assoc] at h; exact h
  have hloop : ∀ (n_ k : Nat), k + n_ = 8 → ax_X p_ l e_ (ax_rm d 33 9367) s_ m_ args_ below_ meth_ c_ 2 D T o (ax_top G) (ax_used G) (MQ below_ (ax_Q D T o G 33 9367 (fun v G' I' L' => v = none ∧ ∃ I1, ax_Bd G I L m 11 (ax_used G + 9367) ax_mt ax_mf G' I1 L' ∧ ax_m0 m 8 I1 = I')) args_ s_ 33 9367 (fun q => o ≤ q)) G33 (ax_m0 m k I33) L33 303 [(1, .int (nI k)), (0, .ref m)] [] := by
    intro n_
    induction n_ with
    | zero =>
      intro k hk_
      rw [show k = 8 by omega]
      refine x_iload_n C (dk ddX11_init_p1 68 rfl) rfl ?_
      refine x_bipush C (v := nI 8) (dk ddX11_init_p1 69 rfl) (by decide) ?_
      refine x_icmp_ge_n C (tgt := 328) (dk ddX11_init_p1 70 rfl) (by decide) (by decide) (by decide) (fun _ => ?_) (fun h_ => absurd h_ (by decide))
      exact x_vret C rfl ⟨rfl, I33, hL, rfl⟩ (by rw [hT, ht]) hL.2.1 (dk ddX11_init_p1 82 rfl)
    | succ n_ ih_ =>
      intro k hk_
      refine x_iload_n C (dk ddX11_init_p1 68 rfl) rfl ?_
      refine x_bipush C (v := nI 8) (dk ddX11_init_p1 69 rfl) (by decide) ?_
      refine x_icmp_ge_n C (tgt := 328) (dk ddX11_init_p1 70 rfl) (by decide) (by omega) (by decide) (fun h306 => ?_) (fun h306 => ?_)
      · exfalso
        omega
      · refine x_aload_n C (dk ddX11_init_p1 71 rfl) rfl ?_
        refine x_getr C flX11_7 rfl (by omega) hL.2.2.1 (show ax_R G33 m 0 = some (m + 1) from (hL.2.2.2.1 0 _ rfl).1) (dk ddX11_init_p1 72 rfl) ?_
        refine x_bipush C (v := nI 84) (dk ddX11_init_p1 73 rfl) (by decide) ?_
        refine x_bipush C (v := nI 11) (dk ddX11_init_p1 74 rfl) (by decide) ?_
        refine x_iload_n C (dk ddX11_init_p1 75 rfl) rfl ?_
        refine x_imul_n C (dk ddX11_init_p1 76 rfl) ?_
        refine x_iadd_n C (dk ddX11_init_p1 77 rfl) ?_
        refine x_iconst C (v := (-1)) (dk ddX11_init_p1 78 rfl) (by decide) ?_
        refine x_iast_n C (by omega) (show ax_K G33 (m + 1) = 0 from (hL.2.2.2.1 0 _ rfl).2.1) (show ax_N G33 (m + 1) = 353 from (hL.2.2.2.1 0 _ rfl).2.2) (by omega) (by decide) (dk ddX11_init_p1 79 rfl) ?_
        refine x_iinc C (v := nI (k + 1)) (lv' := [(1, .int (nI (k + 1))), (0, .ref m)]) (dk ddX11_init_p1 80 rfl) rfl (nI_add k 1) (by decide) rfl ?_
        refine x_goto C (tgt := 303) (dk ddX11_init_p1 81 rfl) (by decide) ?_
        refine x_sub [0, 1] (lv' := [(1, .int (nI (k + 1))), (0, .ref m)]) rfl ?_
        exact ih_ (k + 1) (by omega)
  refine x_iconst C (v := nI 0) (dk ddX11_init_p1 66 rfl) (by decide) ?_
  refine x_istore_n C (lv' := [(1, .int (nI 0)), (0, .ref m)]) (dk ddX11_init_p1 67 rfl) (by decide) rfl ?_
  exact hloop 8 0 (by omega)

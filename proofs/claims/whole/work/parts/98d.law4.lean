/-! ===== the law: its start ===== -/
theorem dfX10 : ∀ k, k < 17 → defaultValue (tyX10 k) = bif ax_ty 10 k then .null else .int 0 := by
  intro k hk
  revert k
  decide +kernel
theorem dfX11 : ∀ k, k < 46 → defaultValue (tyX11 k) = bif ax_ty 11 k then .null else .int 0 := by
  intro k hk
  revert k
  decide +kernel
section AYQ
variable {p : Program} {l : Launch} {e : Env} {R : Room} {s : State} {m : MethodId} {args : Array Value} {below : List Frame} {meth : Method} {c : Code}
variable {cc : ByteArray} {nL b0 : Nat} {own nm : String} {ret : Option FieldType} {D : va_G} {T : Nat → ClassId} {o c0 u0 : Nat} {Q : State → Prop}
variable {G : ax_G} {I : ax_I} {L : ax_L} {pc : Nat} {lv : List (Nat × Value)} {st : List Value}
theorem y_new (C : ax_C p s m args meth c cc nL own nm ret D T o c0) {index ci : Nat} {q0 : vw_C} {tyf : Nat → FieldType} (hq : vwCl[ci]? = some q0) (hin : ∀ w ∈ u_ws q0.1 q0.2.1 q0.2.2, w ∈ lw_use) (hw : ∀ k, k < q0.2.2 → parseFieldDescriptor (q0.2.1 k).2.2.1 = some (tyf k)) (hdv : ∀ k, k < q0.2.2 → defaultValue (tyf k) = bif ax_ty ci k then .null else .int 0) (hcl : Cond.classLink own index q0.1 ∈ lw_use) (hinst : Cond.instantiable q0.1 q0.2.2 ∈ lw_use) (hini : Cond.initialized q0.1 ∈ lw_use)
    (hcells : ax_top G + 1 ≤ c0 + R.cells) (hslots : ax_used G + q0.2.2 ≤ u0 + R.slots) (hdg : decode cc pc = .ok (.new index, 3))
    (kk : ax_Y b0 p l e R s m args below meth c nL D T o c0 u0 Q (ax_new G (8 + ci) 0 q0.2.2) (ax_z I (ax_top G) 0) (ax_z L (ax_top G) 0) (pc + 3) lv (.ref (ax_top G) :: st)) : ax_Y b0 p l e R s m args below meth c nL D T o c0 u0 Q G I L pc lv st := by
  intro H locs ls a1 a2 a3 a4 a5
  have hts := C.2.2.2.2.1
  have he : ax_ent T o (ax_new G (8 + ci) 0 q0.2.2) (ax_z I (ax_top G) 0) (ax_z L (ax_top G) 0) (ax_top G) = .inr (ci, ax_fs o (ax_new G (8 + ci) 0 q0.2.2) (ax_z I (ax_top G) 0) ci (ax_top G)) := ax_ent_o (ax_new_K _ _ _ _)
  obtain ⟨cn, tt, nn⟩ := q0
  refine va_new (ci := ci) (C := cn) (T := tt) (N := nn) (fs := ax_fs o (ax_new G (8 + ci) 0 nn) (ax_z I (ax_top G) 0) ci (ax_top G)) C.1 C.2.1 hts hin tyf hw C.2.2.2.1 (hts _ hcl) (hts _ hinst) (hts _ hini) C.2.2.2.2.2.1 a4 (ax_wsD T o G I L) a5 (fun q hq => by have := C.2.2.2.2.2.2.2.2.2.1; show o ≤ q; omega) hq (fun j hj => ?_) (by omega) (by simp only at hslots; omega) hdg (fun q H1 hP' hD' hS' => ?_)
  · rw [hdv j hj]
    unfold vp_V
    rw [List.getD_eq_getElem?_getD, ax_fs_at (by rw [ax_nf_of hq]; exact hj)]
    unfold ax_fv
    cases hb : ax_ty ci j with
    | true => show _ = ax_tr o (ax_rv (ax_R (ax_new G (8 + ci) 0 nn) (ax_top G) j)); rw [ax_new_R]; rfl
    | false => show _ = ax_tr o (.int (ax_z I (ax_top G) 0 (ax_top G) j)); rw [ax_z_eq]; rfl
  · intro S hS X
    have hq2 := ax_fresh C a1 hP' hD' hS X
    subst hq2
    have k := kk H1 locs ls (by rw [ax_new_top]; omega) (by rw [ax_new_used]; omega) a3 (ax_P_of hP' (ax_new_push he)) hS'
    rw [ax_new_top, ax_new_used, show ax_top G + 1 - c0 = ax_top G - c0 + 1 by omega, show ax_used G + nn - u0 = ax_used G - u0 + nn by omega] at k
    exact k S hS X
end AYQ
/-- the memory ahead of the law -/
def ay_G0 : ax_G := ((0, 0), (fun _ => 0), (fun _ => 0), fun _ _ => none)
/-- both objects have just been made -/
def ay_Nw (G : ax_G) (I : ax_I) (L : ax_L) : Prop := ∃ (G1 : ax_G) (I1 : ax_I) (L1 : ax_L) (J : ax_I),
  ax_Bt (ax_new ay_G0 (8 + 10) 0 17) (ax_z (fun _ _ => 0) 0 0) (ax_z (fun _ _ => 0) 0 0) 0 (17 + 10137) tX10 iX10 G1 I1 L1 ∧
  ax_Bd (ax_new G1 (8 + 11) 0 46) (ax_z I1 639 0) (ax_z L1 639 0) 639 11 (17 + 10137 + 46 + 9367) ax_mt ax_mf G J L ∧ ax_m0 639 8 J = I
set_option maxRecDepth 20000 in
/-- the law, from its entry on -/
theorem law_start {p : Program} {l : Launch} {e : Env} {R : Room} {s : State} {m : MethodId} {args : Array Value} {below : List Frame} {meth : Method} {c : Code} {b0 : Nat} {nm : String} {ret : Option FieldType} {D : va_G} {T : Nat → ClassId} {o : Nat} {Q : State → Prop} {Rel : ax_G → ax_I → ax_L → Prop} {d Ls : Nat} {xs : Nat → Int32}
    (C : ax_C p s m args meth c cL_law 4 RL nm ret D T o 0) (hX : va_X b0 Ls xs s s.heap) (hbl : b0 < s.heap.size) (hbo : b0 < o) (hL : Ls ≤ 3584) (hF : ay_Rm Rel 0 639 d 0 0 R) (hd : 5 ≤ d) (hRc : 673 ≤ R.cells) (hRs : 19567 ≤ R.slots)
    (hNw : ∀ G I L, ay_Nw G I L → Rel G I L)
    (h0 : law_P0 l D T o d Rel 0 639) (h1 : law_P1 l D T o d Rel 0 639) (h2 : law_P2 l D T o d Rel 0 639) (h3 : law_P3 l D T o d Rel 0 639) (h4 : law_P4 l D T o d Rel 0 639) (h5 : law_P5 l D T o d Rel 0 639) (h6 : law_P6 l D T o d Rel 0 639) (h7 : law_P7 l D T o d Rel 0 639) (h8 : law_P8 l D T o d Rel 0 639) (h9 : law_P9 l D T o d Rel 0 639) (h10 : law_P10 l D T o d Rel 0 639) (h11 : law_P11 l D T o d Rel 0 639) (h12 : law_P12 l D T o d Rel 0 639) (h13 : law_P13 l D T o d Rel 0 639) (h14 : law_P14 l D T o d Rel 0 639) (h15 : law_P15 l D T o d Rel 0 639) (h16 : law_P16 l D T o d Rel 0 639) (h17 : law_P17 l D T o d Rel 0 639) (h18 : law_P18 l D T o d Rel 0 639) (h19 : law_P19 l D T o d Rel 0 639) (h20 : law_P20 l D T o d Rel 0 639) (h21 : law_P21 l D T o d Rel 0 639) (h22 : law_P22 l D T o d Rel 0 639) (h23 : law_P23 l D T o d Rel 0 639) (h24 : law_P24 l D T o d Rel 0 639) (h25 : law_P25 l D T o d Rel 0 639) (h26 : law_P26 l D T o d Rel 0 639) (h27 : law_P27 l D T o d Rel 0 639) (h28 : law_P28 l D T o d Rel 0 639) (h29 : law_P29 l D T o d Rel 0 639) (h30 : law_P30 l D T o d Rel 0 639) (h31 : law_P31 l D T o d Rel 0 639) (h32 : law_P32 l D T o d Rel 0 639) (h33 : law_P33 l D T o d Rel 0 639) (h34 : law_P34 l D T o d Rel 0 639) (h35 : law_P35 l D T o d Rel 0 639) (h36 : law_P36 l D T o d Rel 0 639) (h37 : law_P37 l D T o d Rel 0 639)
    (kE : ∀ G I L lv, Rel G I L → ax_Y b0 p l e R s m args below meth c 4 D T o 0 0 Q G I L 1778 lv []) : ax_Y b0 p l e R s m args below meth c 4 D T o 0 0 Q ay_G0 (fun _ _ => 0) (fun _ _ => 0) 0 [] [] := by
  refine y_new C (ci := 10) (q0 := (RX10, TX10, 17)) (tyf := tyX10) rfl cw10 tyX10_ok dfX10 (ax_inT 1 16 (by decide +kernel)) (ax_inT 1 17 (by decide +kernel)) miX10 (by show 0 + 1 ≤ 0 + R.cells; omega) (by show 0 + 17 ≤ 0 + R.slots; omega) (dk ddL_law 0 rfl) ?_
  refine y_dup C (dk ddL_law 1 rfl) rfl ?_
  refine y_callI C (a := 0) (As := []) (k_X10_init l D T o d (ax_new ay_G0 (8 + 10) 0 17) (ax_z (fun _ _ => 0) 0 0) (ax_z (fun _ _ => 0) 0 0) 0 rfl (ax_new_K ay_G0 (8 + 10) 0 17) (ax_new_N ay_G0 (8 + 10) 0 17) (ax_z_eq _ _ _) (ax_z_eq _ _ _) hd) mlL_9 hF.2 ⟨by show 0 + 1 + 638 ≤ 0 + R.cells; omega, by show 0 + 17 + 10137 ≤ 0 + R.slots; omega⟩ rfl (Nat.le_of_ble_eq_true rfl) (dk ddL_law 2 rfl) ?_
  rintro v_ G1 I1 L1 ⟨rfl, hB⟩
  have hB1 : ax_Bt (ax_new ay_G0 (8 + 10) 0 17) (ax_z (fun _ _ => 0) 0 0) (ax_z (fun _ _ => 0) 0 0) 0 (17 + 10137) tX10 iX10 G1 I1 L1 := hB
  have hl1 : List.length tX10 = 639 := by decide +kernel
  have hT1 : ax_top G1 = 639 := by have h := hB1.1; rw [hl1] at h; omega
  have hU1 : ax_used G1 = 17 + 10137 := hB1.2.1
  clear hB hl1
  refine y_astore_n C (lv' := [(1, .ref 0)]) (dk ddL_law 3 rfl) (by decide) (by decide) rfl ?_
  refine y_new C (ci := 11) (q0 := (RX11, TX11, 46)) (tyf := tyX11) rfl cw11 tyX11_ok dfX11 (ax_inT 5 80 (by decide +kernel)) (ax_inT 5 81 (by decide +kernel)) miX11 (by show ax_top G1 + 1 ≤ 0 + R.cells; omega) (by show ax_used G1 + 46 ≤ 0 + R.slots; omega) (dk ddL_law 4 rfl) ?_
  have hK2 := ax_new_K G1 (8 + 11) 0 46
  rw [hT1] at hK2 ⊢
  refine y_dup C (dk ddL_law 5 rfl) rfl ?_
  refine y_callI C (a := 639) (As := []) (k_X11_init l D T o d (ax_new G1 (8 + 11) 0 46) (ax_z I1 639 0) (ax_z L1 639 0) 639 (by rw [ax_new_top, hT1]) hK2 (by omega)) mlL_12 hF.2 ⟨by show ax_top G1 + 1 + 33 ≤ 0 + R.cells; omega, by show ax_used G1 + 46 + 9367 ≤ 0 + R.slots; omega⟩ rfl (Nat.le_of_ble_eq_true rfl) (dk ddL_law 6 rfl) ?_
  rintro v_ G2 I2 L2 ⟨rfl, J, hB2, hJ⟩
  refine y_astore_n C (lv' := [(2, .ref 639), (1, .ref 0)]) (dk ddL_law 7 rfl) (by decide) (by decide) rfl ?_
  refine y_iconst C (v := nI 0) (dk ddL_law 8 rfl) (by decide) ?_
  refine y_istore_n C (lv' := [(3, .int (nI 0)), (2, .ref 639), (1, .ref 0)]) (dk ddL_law 9 rfl) (by decide) (by decide) rfl ?_
  have hU2 : ax_used (ax_new G1 (8 + 11) 0 46) + 9367 = 17 + 10137 + 46 + 9367 := by show ax_used G1 + 46 + 9367 = _; rw [hU1]
  rw [hU2] at hB2
  exact law_loop C hX hbl hbo hL hF h0 h1 h2 h3 h4 h5 h6 h7 h8 h9 h10 h11 h12 h13 h14 h15 h16 h17 h18 h19 h20 h21 h22 h23 h24 h25 h26 h27 h28 h29 h30 h31 h32 h33 h34 h35 h36 h37 kE 512 0 (by omega) (by omega) G2 I2 L2 (hNw G2 I2 L2 ⟨G1, I1, L1, J, hB1, hB2, hJ⟩)

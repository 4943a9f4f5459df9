/-! ===== the class: a text is read: look, takeIf, one ===== -/
/-- where a text stands in the class: place; faulty, no map, not fit, too great; ints, longs -/
abbrev ax_ZS : Type := Nat × Bool × Bool × Bool × Bool × ax_I × ax_L
def ax_ZI (r c : Nat) (W : Nat → Int32) (p : Nat) (fa nm nf tg : Bool) (I : ax_I) : Prop := p ≤ c ∧ I r 1 = nI c ∧ I r 2 = nI p ∧ I r 3 = ax_b fa ∧ I r 4 = ax_b nm ∧ I r 5 = ax_b nf ∧ I r 6 = ax_b tg ∧ I (r + 1) = W
theorem ax_b_fit (b : Bool) : fits .boolean (.int (ax_b b)) = true := by cases b <;> rfl
theorem ax_b_or (x y : Bool) : ax_b x ||| ax_b y = ax_b (x || y) := by cases x <;> cases y <;> decide
theorem ax_vlc {W : Nat → Int32} {c q : Nat} (h : ¬ ax_vl W c q = -1) : q < c := by
  rcases Nat.lt_or_ge q c with z | z
  · exact z
  · exact absurd (by unfold ax_vl; rw [if_neg (by omega)]) h
theorem ax_vl48 {W : Nat → Int32} {c q n : Nat} (hn : n < 2 ^ 31) (h : ¬ ax_vl W c q < nI n) : q < c := ax_vlc (fun z => h (by rw [z]; exact Int32.not_le.mp (fun y => ax_nn1 (u := n) hn (Int32.lt_of_le_of_ne y (fun e => ax_nn2 (u := n) hn e)))))
theorem ax_vleq {W : Nat → Int32} {c q n : Nat} (hn : n < 2 ^ 31) (h : ax_vl W c q = nI n) : q < c := ax_vlc (fun z => ax_nn2 (u := n) hn (by rw [← h, z]))
theorem ax_let {v : Int32} (h1 : ¬ v < nI 97) (h2 : ¬ nI 105 ≤ v) : v - nI 97 = nI (v - nI 97).toNatClampNeg ∧ (v - nI 97).toNatClampNeg < 8 := by
  obtain ⟨n, hn, rfl⟩ := nI_of (x := v) (fun z => h1 (Int32.lt_trans z (by decide)))
  have h3 : 97 ≤ n := Nat.le_of_not_lt fun q => h1 ((nI_ltI (by omega) (by omega)).mpr q)
  have h4 : n < 105 := Nat.lt_of_not_le fun q => h2 ((nI_leI (by omega) (by omega)).mpr q)
  rw [pk_sub (a := n) (b := 97) h3, nI_clamp (by omega)]
  exact ⟨rfl, by omega⟩
set_option maxRecDepth 20000 in
/-- look() -/
theorem k_X9_look (l : Launch) (D : va_G) (T : Nat → ClassId) (o d : Nat) (G : ax_G) (I : ax_I) (L : ax_L) (r c p : Nat) (W : Nat → Int32) (fa nm nf tg : Bool) (hR : ax_Rd G r) (hZ : ax_ZI r c W p fa nm nf tg I) (hc1 : c ≤ 100)  : ax_Con l D T o yX9_look cX9_look 1 (some .int) d 0 0 [.ref r] G I L (fun zz G' I' L' => zz = some (.int (ax_vl W c (ax_nx W (c - p) p))) ∧ G = G' ∧ ax_u I r 2 (nI (ax_nx W (c - p) p)) = I' ∧ L = L') := by
  refine ax_enter (by decide +kernel) (Nat.le_of_ble_eq_true rfl) ?_
  intro p_ e_ s_ m_ args_ below_ meth_ c_ C _
  refine x_lvs (lv' := [(0, .ref r)]) rfl ?_
  obtain ⟨hz1_, hz2_, hz3_, hz4_, hz5_, hz6_, hz7_, hz8_⟩ := hZ
  have hloop : ∀ (n_ h : Nat), h + n_ = c → ax_nx W n_ h = (ax_nx W (c - p) p) → ax_XM p_ l e_ s_ m_ args_ below_ meth_ c_ 1 D T o d 0 0 G (fun zz G' I' L' => zz = some (.int (ax_vl W c (ax_nx W (c - p) p))) ∧ G = G' ∧ ax_u I r 2 (nI (ax_nx W (c - p) p)) = I' ∧ L = L') G (ax_u I r 2 (nI h)) L 0 [(0, .ref r)] [] := by
    intro n_
    induction n_ with
    | zero =>
      intro h hk_ hx_
      have e_ : h = (ax_nx W (c - p) p) := hx_
      refine x_aload_n C (dk ddX9_look 0 rfl) rfl ?_
      refine x_geti C flX9_19 rfl (by have h_ := hR.1; omega) hR.fld.1 (dk ddX9_look 1 rfl) ?_
      rw [show ((ax_u I r 2 (nI h)) r 2) = nI h from (by repeat (first | assumption | exact ax_u_at _ _ _ _ | rw [ax_u_nj (by decide)] | rw [ax_u_ne (by omega)]))]
      refine x_aload_n C (dk ddX9_look 2 rfl) rfl ?_
      refine x_geti C flX9_15 rfl (by have h_ := hR.1; omega) hR.fld.1 (dk ddX9_look 3 rfl) ?_
      rw [show ((ax_u I r 2 (nI h)) r 1) = nI c from (by repeat (first | assumption | exact ax_u_at _ _ _ _ | rw [ax_u_nj (by decide)] | rw [ax_u_ne (by omega)]))]
      refine x_icmp_ge_n C (tgt := 38) (dk ddX9_look 4 rfl) (by decide) (by omega) (by omega) (fun h8 => ?_) (fun h8 => ?_)
      · refine x_aload_n C (dk ddX9_look 19 rfl) rfl ?_
        refine x_geti C flX9_19 rfl (by have h_ := hR.1; omega) hR.fld.1 (dk ddX9_look 20 rfl) ?_
        rw [show ((ax_u I r 2 (nI h)) r 2) = nI h from (by repeat (first | assumption | exact ax_u_at _ _ _ _ | rw [ax_u_nj (by decide)] | rw [ax_u_ne (by omega)]))]
        refine x_aload_n C (dk ddX9_look 21 rfl) rfl ?_
        refine x_geti C flX9_15 rfl (by have h_ := hR.1; omega) hR.fld.1 (dk ddX9_look 22 rfl) ?_
        rw [show ((ax_u I r 2 (nI h)) r 1) = nI c from (by repeat (first | assumption | exact ax_u_at _ _ _ _ | rw [ax_u_nj (by decide)] | rw [ax_u_ne (by omega)]))]
        refine x_icmp_ge_n C (tgt := 61) (dk ddX9_look 23 rfl) (by decide) (by omega) (by omega) (fun h46 => ?_) (fun h46 => ?_)
        · refine x_iconst C (v := (-1)) (dk ddX9_look 30 rfl) (by decide) ?_
          exact x_iret C rfl ⟨by rw [← e_]; unfold ax_vl; rw [if_neg (by omega)], rfl, by rw [← e_], rfl⟩ rfl rfl (dk ddX9_look 31 rfl)
        · exfalso
          first | exact h8 h46 | exact h46 h8 | omega | (rw [h8] at h46; cases h46)
      · exfalso
        omega
    | succ n_ ih_ =>
      intro h hk_ hx_
      refine x_aload_n C (dk ddX9_look 0 rfl) rfl ?_
      refine x_geti C flX9_19 rfl (by have h_ := hR.1; omega) hR.fld.1 (dk ddX9_look 1 rfl) ?_
      rw [show ((ax_u I r 2 (nI h)) r 2) = nI h from (by repeat (first | assumption | exact ax_u_at _ _ _ _ | rw [ax_u_nj (by decide)] | rw [ax_u_ne (by omega)]))]
      refine x_aload_n C (dk ddX9_look 2 rfl) rfl ?_
      refine x_geti C flX9_15 rfl (by have h_ := hR.1; omega) hR.fld.1 (dk ddX9_look 3 rfl) ?_
      rw [show ((ax_u I r 2 (nI h)) r 1) = nI c from (by repeat (first | assumption | exact ax_u_at _ _ _ _ | rw [ax_u_nj (by decide)] | rw [ax_u_ne (by omega)]))]
      refine x_icmp_ge_n C (tgt := 38) (dk ddX9_look 4 rfl) (by decide) (by omega) (by omega) (fun h8 => ?_) (fun h8 => ?_)
      · exfalso
        omega
      · refine x_aload_n C (dk ddX9_look 5 rfl) rfl ?_
        refine x_getr C flX9_9 rfl (by have h_ := hR.1; omega) hR.fld.1 (show ax_R G r 0 = some (r + 1) from hR.fld.2.2 (0, 1) (by decide)) (dk ddX9_look 6 rfl) ?_
        refine x_aload_n C (dk ddX9_look 7 rfl) rfl ?_
        refine x_geti C flX9_19 rfl (by have h_ := hR.1; omega) hR.fld.1 (dk ddX9_look 8 rfl) ?_
        rw [show ((ax_u I r 2 (nI h)) r 2) = nI h from (by repeat (first | assumption | exact ax_u_at _ _ _ _ | rw [ax_u_nj (by decide)] | rw [ax_u_ne (by omega)]))]
        refine x_iald_n C hR.tape.1 hR.tape.2.1 hR.tape.2.2 (by omega) (by decide) (dk ddX9_look 9 rfl) ?_
        rw [show ((ax_u I r 2 (nI h)) (r + 1) h) = W h from (by rw [show (ax_u I r 2 (nI h)) (r + 1) = W from (by repeat (first | assumption | exact ax_u_at _ _ _ _ | rw [ax_u_nj (by decide)] | rw [ax_u_ne (by omega)]))])]
        refine x_bipush C (v := nI 32) (dk ddX9_look 10 rfl) (by decide) ?_
        refine x_icmp_ne C (tgt := 38) (dk ddX9_look 11 rfl) (by decide) (fun h22 => ?_) (fun h22 => ?_)
        · refine x_aload_n C (dk ddX9_look 19 rfl) rfl ?_
          refine x_geti C flX9_19 rfl (by have h_ := hR.1; omega) hR.fld.1 (dk ddX9_look 20 rfl) ?_
          rw [show ((ax_u I r 2 (nI h)) r 2) = nI h from (by repeat (first | assumption | exact ax_u_at _ _ _ _ | rw [ax_u_nj (by decide)] | rw [ax_u_ne (by omega)]))]
          refine x_aload_n C (dk ddX9_look 21 rfl) rfl ?_
          refine x_geti C flX9_15 rfl (by have h_ := hR.1; omega) hR.fld.1 (dk ddX9_look 22 rfl) ?_
          rw [show ((ax_u I r 2 (nI h)) r 1) = nI c from (by repeat (first | assumption | exact ax_u_at _ _ _ _ | rw [ax_u_nj (by decide)] | rw [ax_u_ne (by omega)]))]
          refine x_icmp_ge_n C (tgt := 61) (dk ddX9_look 23 rfl) (by decide) (by omega) (by omega) (fun h46 => ?_) (fun h46 => ?_)
          · exfalso
            first | exact h8 h46 | exact h46 h8 | omega | (rw [h8] at h46; cases h46)
          · refine x_aload_n C (dk ddX9_look 24 rfl) rfl ?_
            refine x_getr C flX9_9 rfl (by have h_ := hR.1; omega) hR.fld.1 (show ax_R G r 0 = some (r + 1) from hR.fld.2.2 (0, 1) (by decide)) (dk ddX9_look 25 rfl) ?_
            refine x_aload_n C (dk ddX9_look 26 rfl) rfl ?_
            refine x_geti C flX9_19 rfl (by have h_ := hR.1; omega) hR.fld.1 (dk ddX9_look 27 rfl) ?_
            rw [show ((ax_u I r 2 (nI h)) r 2) = nI h from (by repeat (first | assumption | exact ax_u_at _ _ _ _ | rw [ax_u_nj (by decide)] | rw [ax_u_ne (by omega)]))]
            refine x_iald_n C hR.tape.1 hR.tape.2.1 hR.tape.2.2 (by omega) (by decide) (dk ddX9_look 28 rfl) ?_
            rw [show ((ax_u I r 2 (nI h)) (r + 1) h) = W h from (by rw [show (ax_u I r 2 (nI h)) (r + 1) = W from (by repeat (first | assumption | exact ax_u_at _ _ _ _ | rw [ax_u_nj (by decide)] | rw [ax_u_ne (by omega)]))])]
            refine x_goto C (tgt := 62) (dk ddX9_look 29 rfl) (by decide) ?_
            exact x_iret C rfl ⟨by rw [show (ax_nx W (c - p) p) = h from hx_.symm.trans (if_neg h22)]; unfold ax_vl; rw [if_pos (by omega)], rfl, by rw [show (ax_nx W (c - p) p) = h from hx_.symm.trans (if_neg h22)], rfl⟩ rfl rfl (dk ddX9_look 31 rfl)
        · refine x_aload_n C (dk ddX9_look 12 rfl) rfl ?_
          refine x_dup C (dk ddX9_look 13 rfl) rfl ?_
          refine x_geti C flX9_19 rfl (by have h_ := hR.1; omega) hR.fld.1 (dk ddX9_look 14 rfl) ?_
          rw [show ((ax_u I r 2 (nI h)) r 2) = nI h from (by repeat (first | assumption | exact ax_u_at _ _ _ _ | rw [ax_u_nj (by decide)] | rw [ax_u_ne (by omega)]))]
          refine x_iconst C (v := nI 1) (dk ddX9_look 15 rfl) (by decide) ?_
          refine x_iadd_n C (dk ddX9_look 16 rfl) ?_
          refine x_puti C flX9_19 fw9 rfl rfl (by have h_ := hR.1; omega) hR.fld.1 rfl rfl (dk ddX9_look 17 rfl) ?_
          refine x_goto C (tgt := 0) (dk ddX9_look 18 rfl) (by decide) ?_
          rw [ax_u_u]
          refine x_sub [0] (lv' := [(0, .ref r)]) rfl ?_
          have h3_ : ax_nx W (n_ + 1) h = ax_nx W n_ (h + 1) := if_pos h22
          exact ih_ (h + 1) (by omega) (h3_.symm.trans hx_)
  have h_ := hloop (c - p) p (by omega) rfl
  rw [show ax_u I r 2 (nI p) = I from ax_u_self hz3_] at h_
  exact h_
set_option maxRecDepth 20000 in
/-- takeIf(u) -/
theorem k_X9_takeIf (l : Launch) (D : va_G) (T : Nat → ClassId) (o d : Nat) (G : ax_G) (I : ax_I) (L : ax_L) (r c p : Nat) (W : Nat → Int32) (fa nm nf tg : Bool) (u : Int32) (hR : ax_Rd G r) (hZ : ax_ZI r c W p fa nm nf tg I) (hc1 : c ≤ 100) (hd : 1 ≤ d) : ax_Con l D T o yX9_takeIf cX9_takeIf 2 (some .boolean) d 0 0 [.ref r, .int u] G I L (fun zz G' I' L' => zz = some (.int (ax_b (ax_tk W c p false u))) ∧ G = G' ∧ ax_u I r 2 (nI (ax_tkh W c p false u)) = I' ∧ L = L') := by
  refine ax_enter (by decide +kernel) (Nat.le_of_ble_eq_true rfl) ?_
  intro p_ e_ s_ m_ args_ below_ meth_ c_ C _
  refine x_lvs (lv' := [(0, .ref r), (1, .int u)]) rfl ?_
  obtain ⟨hz1_, hz2_, hz3_, hz4_, hz5_, hz6_, hz7_, hz8_⟩ := hZ
  refine x_aload_n C (dk ddX9_takeIf 0 rfl) rfl ?_
  refine x_callV C (ci := 9) (As := []) (k_X9_look l D T o (d - 1) G I L r c p W fa nm nf tg hR ⟨by omega, (by repeat (first | assumption | exact ax_u_at _ _ _ _ | rw [ax_u_nj (by decide)] | rw [ax_u_ne (by omega)])), (by repeat (first | assumption | exact ax_u_at _ _ _ _ | rw [ax_u_nj (by decide)] | rw [ax_u_ne (by omega)])), (by repeat (first | assumption | exact ax_u_at _ _ _ _ | rw [ax_u_nj (by decide)] | rw [ax_u_ne (by omega)])), (by repeat (first | assumption | exact ax_u_at _ _ _ _ | rw [ax_u_nj (by decide)] | rw [ax_u_ne (by omega)])), (by repeat (first | assumption | exact ax_u_at _ _ _ _ | rw [ax_u_nj (by decide)] | rw [ax_u_ne (by omega)])), (by repeat (first | assumption | exact ax_u_at _ _ _ _ | rw [ax_u_nj (by decide)] | rw [ax_u_ne (by omega)])), (by repeat (first | assumption | exact ax_u_at _ _ _ _ | rw [ax_u_nj (by decide)] | rw [ax_u_ne (by omega)]))⟩ (by omega)) mlX9_52 rfl rfl (by have h_ := hR.1; omega) hR.fld.1 ⟨by show d - 1 + 1 ≤ d; omega, by show 40 * (d - 1 + 1) ≤ 40 * d; omega⟩ ⟨Nat.le_refl _, Nat.le_refl _⟩ rfl (Nat.le_of_ble_eq_true rfl) (dk ddX9_takeIf 1 rfl) ?_
  rintro v_ G_ I_ L_ ⟨rfl, rfl, rfl, rfl⟩
  have hx1_ := ax_nx_le W (c - p) p
  refine x_iload_n C (dk ddX9_takeIf 2 rfl) rfl ?_
  refine x_icmp_eq C (tgt := 10) (dk ddX9_takeIf 3 rfl) (by decide) (fun h5 => ?_) (fun h5 => ?_)
  · refine x_aload_n C (dk ddX9_takeIf 6 rfl) rfl ?_
    refine x_dup C (dk ddX9_takeIf 7 rfl) rfl ?_
    refine x_geti C flX9_19 rfl (by have h_ := hR.1; omega) hR.fld.1 (dk ddX9_takeIf 8 rfl) ?_
    rw [show ((ax_u I r 2 (nI (ax_nx W (c - p) p))) r 2) = nI (ax_nx W (c - p) p) from (by repeat (first | assumption | exact ax_u_at _ _ _ _ | rw [ax_u_nj (by decide)] | rw [ax_u_ne (by omega)]))]
    refine x_iconst C (v := nI 1) (dk ddX9_takeIf 9 rfl) (by decide) ?_
    refine x_iadd_n C (dk ddX9_takeIf 10 rfl) ?_
    refine x_puti C flX9_19 fw9 rfl rfl (by have h_ := hR.1; omega) hR.fld.1 rfl rfl (dk ddX9_takeIf 11 rfl) ?_
    refine x_iconst C (v := nI 1) (dk ddX9_takeIf 12 rfl) (by decide) ?_
    exact x_zret C rfl rfl ⟨by rw [show (ax_tk W c p false u) = true from decide_eq_true h5]; rfl, rfl, by rw [show (ax_tkh W c p false u) = ax_nx W (c - p) p + 1 from (by show _ + (bif (ax_tk W c p false u) then 1 else 0) = _; rw [show (ax_tk W c p false u) = true from decide_eq_true h5]; rfl)]; exact (ax_u_u _ _ _ _ _).symm, rfl⟩ rfl rfl (dk ddX9_takeIf 13 rfl)
  · refine x_iconst C (v := nI 0) (dk ddX9_takeIf 4 rfl) (by decide) ?_
    exact x_zret C rfl rfl ⟨by rw [show (ax_tk W c p false u) = false from decide_eq_false h5]; rfl, rfl, by rw [show (ax_tkh W c p false u) = ax_nx W (c - p) p + 0 from (by show _ + (bif (ax_tk W c p false u) then 1 else 0) = _; rw [show (ax_tk W c p false u) = false from decide_eq_false h5]; rfl)]; rfl, rfl⟩ rfl rfl (dk ddX9_takeIf 5 rfl)
def ax_rmI (I : ax_I) (r : Nat) (s : Nat) (f : Nat) (e : Nat) (nm : Bool) : ax_I := if (!decide (I (s + 4) f = -1)) = true then ax_u (ax_u (ax_u I r 4 (ax_b (nm || false))) (r + (11 + 9 * e)) 0 ((ax_u I r 4 (ax_b (nm || false))) (s + 4) f)) (r + (11 + 9 * e)) 1 ((ax_u I r 4 (ax_b (nm || false))) (s + 5) f) else ax_u (ax_u (ax_u I r 4 (ax_b (nm || true))) (r + (11 + 9 * e)) 0 ((ax_u I r 4 (ax_b (nm || true))) (s + 4) f)) (r + (11 + 9 * e)) 1 ((ax_u I r 4 (ax_b (nm || true))) (s + 5) f)
def ax_rmL (I : ax_I) (L : ax_L) (r : Nat) (s : Nat) (f : Nat) (e : Nat) (nm : Bool) : ax_L := if (!decide (I (s + 4) f = -1)) = true then ax_bmp (ax_u (ax_u (ax_u I r 4 (ax_b (nm || false))) (r + (11 + 9 * e)) 0 ((ax_u I r 4 (ax_b (nm || false))) (s + 4) f)) (r + (11 + 9 * e)) 1 ((ax_u I r 4 (ax_b (nm || false))) (s + 5) f)) (r + (12 + 9 * e)) s f 9 L else ax_bmp (ax_u (ax_u (ax_u I r 4 (ax_b (nm || true))) (r + (11 + 9 * e)) 0 ((ax_u I r 4 (ax_b (nm || true))) (s + 4) f)) (r + (11 + 9 * e)) 1 ((ax_u I r 4 (ax_b (nm || true))) (s + 5) f)) (r + (12 + 9 * e)) s f 9 L
def ax_rm_nm (I : ax_I) (s : Nat) (f : Nat) (nm : Bool) : Bool := if (!decide (I (s + 4) f = -1)) = true then nm || false else nm || true
set_option maxRecDepth 20000 in
/-- readMap(state, f, depth) -/
theorem k_X9_readMap (l : Launch) (D : va_G) (T : Nat → ClassId) (o d : Nat) (G : ax_G) (I : ax_I) (L : ax_L) (r c p s f e : Nat) (W : Nat → Int32) (fa nm nf tg : Bool) (hR : ax_Rd G r) (hZ : ax_ZI r c W p fa nm nf tg I) (hc1 : c ≤ 100) (hs : ax_Sta G s) (hrs : r + 50 ≤ s ∨ s + 14 ≤ r) (hf : f < 8) (he : e ≤ 4) (hd : 1 ≤ d) : ax_Con l D T o yX9_readMap cX9_readMap 4 none d 0 0 [.ref r, .ref s, .int (nI f), .int (nI e)] G I L (fun zz G' I' L' => zz = none ∧ G = G' ∧ (ax_rmI I r s f e nm) = I' ∧ (ax_rmL I L r s f e nm) = L') := by
  refine ax_enter (by decide +kernel) (Nat.le_of_ble_eq_true rfl) ?_
  intro p_ e_ s_ m_ args_ below_ meth_ c_ C _
  refine x_lvs (lv' := [(0, .ref r), (1, .ref s), (2, .int (nI f)), (3, .int (nI e))]) rfl ?_
  obtain ⟨hz1_, hz2_, hz3_, hz4_, hz5_, hz6_, hz7_, hz8_⟩ := hZ
  refine x_aload_n C (dk ddX9_readMap 0 rfl) rfl ?_
  refine x_dup C (dk ddX9_readMap 1 rfl) rfl ?_
  refine x_geti C flX9_26 rfl (by have h_ := hR.1; omega) hR.fld.1 (dk ddX9_readMap 2 rfl) ?_
  rw [show (I r 4) = ax_b nm from (by repeat (first | assumption | exact ax_u_at _ _ _ _ | rw [ax_u_nj (by decide)] | rw [ax_u_ne (by omega)]))]
  refine x_aload_n C (dk ddX9_readMap 3 rfl) rfl ?_
  refine x_iload_n C (dk ddX9_readMap 4 rfl) rfl ?_
  refine x_callV C (ci := 7) (As := [.int (nI f)]) (k_X7_hasMap l D T o (d - 1) G I L s f hs (by omega)) mlX9_96 rfl rfl (by have h_ := hs.1; omega) (show ax_K G s = 8 + 7 from (hs.2 0 _ rfl).1) ⟨by show d - 1 + 1 ≤ d; omega, by show 40 * (d - 1 + 1) ≤ 40 * d; omega⟩ ⟨Nat.le_refl _, Nat.le_refl _⟩ rfl (Nat.le_of_ble_eq_true rfl) (dk ddX9_readMap 5 rfl) ?_
  rintro v_ G_ I_ L_ ⟨rfl, rfl, rfl, rfl⟩
  refine x_if_ne_b C (tgt := 17) (dk ddX9_readMap 6 rfl) (by decide) (fun h10 => ?_) (fun h10 => ?_)
  · refine x_iconst C (v := nI 0) (dk ddX9_readMap 9 rfl) (by decide) ?_
    refine x_ior C (dk ddX9_readMap 10 rfl) ?_
    rw [show (ax_b nm) ||| (nI 0) = ax_b (nm || false) from ax_b_or nm false]
    refine x_puti (v := ax_b (nm || false)) C flX9_26 fw9 rfl rfl (by have h_ := hR.1; omega) hR.fld.1 (ax_b_nar _) (ax_b_fit _) (dk ddX9_readMap 11 rfl) ?_
    refine x_aload_n C (dk ddX9_readMap 12 rfl) rfl ?_
    refine x_getr C flX9_44 rfl (by have h_ := hR.1; omega) hR.fld.1 (show ax_R G r 9 = some (r + 4) from hR.fld.2.2 (9, 4) (by decide)) (dk ddX9_readMap 13 rfl) ?_
    refine x_iload_n C (dk ddX9_readMap 14 rfl) rfl ?_
    refine x_aald4_n C hR.ones_.1 hR.ones_.2.1 hR.ones_.2.2 (by omega) (by decide) (hR.ones (k := e) (by omega)).1 (dk ddX9_readMap 15 rfl) ?_
    refine x_aload_n C (dk ddX9_readMap 16 rfl) rfl ?_
    refine x_iload_n C (dk ddX9_readMap 17 rfl) rfl ?_
    refine x_callV C (ci := 8) (As := [.ref s, .int (nI f)]) (k_X8_becomeMap l D T o (d - 1) G (ax_u I r 4 (ax_b (nm || false))) L (r + (11 + 9 * e)) (r + (12 + 9 * e)) s f (hR.ones (k := e) (by omega)).2.1 hs (by omega) (by omega)) mlX9_101 rfl rfl (hR.ones (k := e) (by omega)).2.1.1 (hR.ones (k := e) (by omega)).2.1.2.1 ⟨by show d - 1 + 1 ≤ d; omega, by show 40 * (d - 1 + 1) ≤ 40 * d; omega⟩ ⟨Nat.le_refl _, Nat.le_refl _⟩ rfl (Nat.le_of_ble_eq_true rfl) (dk ddX9_readMap 18 rfl) ?_
    rintro v_ G_ I_ L_ ⟨rfl, rfl, rfl, rfl⟩
    exact x_vret C rfl ⟨rfl, rfl, (by unfold ax_rmI; rw [if_pos h10] <;> rfl), (by unfold ax_rmL; rw [if_pos h10] <;> rfl)⟩ rfl rfl (dk ddX9_readMap 19 rfl)
  · refine x_iconst C (v := nI 1) (dk ddX9_readMap 7 rfl) (by decide) ?_
    refine x_goto C (tgt := 18) (dk ddX9_readMap 8 rfl) (by decide) ?_
    refine x_ior C (dk ddX9_readMap 10 rfl) ?_
    rw [show (ax_b nm) ||| (nI 1) = ax_b (nm || true) from ax_b_or nm true]
    refine x_puti (v := ax_b (nm || true)) C flX9_26 fw9 rfl rfl (by have h_ := hR.1; omega) hR.fld.1 (ax_b_nar _) (ax_b_fit _) (dk ddX9_readMap 11 rfl) ?_
    refine x_aload_n C (dk ddX9_readMap 12 rfl) rfl ?_
    refine x_getr C flX9_44 rfl (by have h_ := hR.1; omega) hR.fld.1 (show ax_R G r 9 = some (r + 4) from hR.fld.2.2 (9, 4) (by decide)) (dk ddX9_readMap 13 rfl) ?_
    refine x_iload_n C (dk ddX9_readMap 14 rfl) rfl ?_
    refine x_aald4_n C hR.ones_.1 hR.ones_.2.1 hR.ones_.2.2 (by omega) (by decide) (hR.ones (k := e) (by omega)).1 (dk ddX9_readMap 15 rfl) ?_
    refine x_aload_n C (dk ddX9_readMap 16 rfl) rfl ?_
    refine x_iload_n C (dk ddX9_readMap 17 rfl) rfl ?_
    refine x_callV C (ci := 8) (As := [.ref s, .int (nI f)]) (k_X8_becomeMap l D T o (d - 1) G (ax_u I r 4 (ax_b (nm || true))) L (r + (11 + 9 * e)) (r + (12 + 9 * e)) s f (hR.ones (k := e) (by omega)).2.1 hs (by omega) (by omega)) mlX9_101 rfl rfl (hR.ones (k := e) (by omega)).2.1.1 (hR.ones (k := e) (by omega)).2.1.2.1 ⟨by show d - 1 + 1 ≤ d; omega, by show 40 * (d - 1 + 1) ≤ 40 * d; omega⟩ ⟨Nat.le_refl _, Nat.le_refl _⟩ rfl (Nat.le_of_ble_eq_true rfl) (dk ddX9_readMap 18 rfl) ?_
    rintro v_ G_ I_ L_ ⟨rfl, rfl, rfl, rfl⟩
    exact x_vret C rfl ⟨rfl, rfl, (by unfold ax_rmI; rw [if_neg (Bool.eq_false_iff.mp h10)] <;> rfl), (by unfold ax_rmL; rw [if_neg (Bool.eq_false_iff.mp h10)] <;> rfl)⟩ rfl rfl (dk ddX9_readMap 19 rfl)
def ax_waI (I : ax_I) (L : ax_L) (r : Nat) (x : Nat) : ax_I := if (ax_twn (L x) 1000000000 9) = true then I else ax_u I r 6 (ax_b true)
def ax_wtL (L : ax_L) (x : Nat) : ax_L := if (ax_twn (L x) 1000000000 9) = true then L else ax_tml x 0 L 9
def ax_wt_tg (L : ax_L) (x : Nat) (tg : Bool) : Bool := if (ax_twn (L x) 1000000000 9) = true then tg else true
set_option maxRecDepth 20000 in
/-- watch(table) -/
theorem k_X9_watch (l : Launch) (D : va_G) (T : Nat → ClassId) (o d : Nat) (G : ax_G) (I : ax_I) (L : ax_L) (r q x : Nat) (tg : Bool) (hR : ax_Rd G r) (hq : ax_Ta G q x) (htg : I r 6 = ax_b tg) (hd : 1 ≤ d) : ax_Con l D T o yX9_watch cX9_watch 2 none d 0 0 [.ref r, .ref q] G I L (fun zz G' I' L' => zz = none ∧ G = G' ∧ (ax_waI I L r x) = I' ∧ (ax_wtL L x) = L') := by
  refine ax_enter (by decide +kernel) (Nat.le_of_ble_eq_true rfl) ?_
  intro p_ e_ s_ m_ args_ below_ meth_ c_ C _
  refine x_lvs (lv' := [(0, .ref r), (1, .ref q)]) rfl ?_
  refine x_aload_n C (dk ddX9_watch 0 rfl) rfl ?_
  refine x_ldc2 C klX9_104 (dk ddX9_watch 1 rfl) ?_
  refine x_callV C (ci := 8) (As := [.long 1000000000]) (k_X8_isWithin l D T o (d - 1) G I L q x 1000000000 hq) mlX9_106 rfl rfl hq.1 hq.2.1 ⟨by show d - 1 + 1 ≤ d; omega, by show 40 * (d - 1 + 1) ≤ 40 * d; omega⟩ ⟨Nat.le_refl _, Nat.le_refl _⟩ rfl (Nat.le_of_ble_eq_true rfl) (dk ddX9_watch 2 rfl) ?_
  rintro v_ G_ I_ L_ ⟨rfl, rfl, rfl, rfl⟩
  refine x_if_ne_b C (tgt := 20) (dk ddX9_watch 3 rfl) (by decide) (fun h7 => ?_) (fun h7 => ?_)
  · exact x_vret C rfl ⟨rfl, rfl, (by unfold ax_waI; rw [if_pos h7] <;> rfl), (by unfold ax_wtL; rw [if_pos h7] <;> rfl)⟩ rfl rfl (dk ddX9_watch 10 rfl)
  · refine x_aload_n C (dk ddX9_watch 4 rfl) rfl ?_
    refine x_iconst C (v := nI 1) (dk ddX9_watch 5 rfl) (by decide) ?_
    refine x_puti (v := ax_b true) C flX9_32 fw9 rfl rfl (by have h_ := hR.1; omega) hR.fld.1 (ax_b_nar _) (ax_b_fit _) (dk ddX9_watch 6 rfl) ?_
    refine x_aload_n C (dk ddX9_watch 7 rfl) rfl ?_
    refine x_lconst C (v := 0) (dk ddX9_watch 8 rfl) (by decide) ?_
    refine x_callV C (ci := 8) (As := [.long 0]) (k_X8_multiply l D T o (d - 1) G (ax_u I r 6 (ax_b true)) L q x 0 hq) mlX9_69 rfl rfl hq.1 hq.2.1 ⟨by show d - 1 + 1 ≤ d; omega, by show 40 * (d - 1 + 1) ≤ 40 * d; omega⟩ ⟨Nat.le_refl _, Nat.le_refl _⟩ rfl (Nat.le_of_ble_eq_true rfl) (dk ddX9_watch 9 rfl) ?_
    rintro v_ G_ I_ L_ ⟨rfl, rfl, rfl, rfl⟩
    exact x_vret C rfl ⟨rfl, rfl, (by unfold ax_waI; rw [if_neg (Bool.eq_false_iff.mp h7)] <;> rfl), (by unfold ax_wtL; rw [if_neg (Bool.eq_false_iff.mp h7)] <;> rfl)⟩ rfl rfl (dk ddX9_watch 10 rfl)

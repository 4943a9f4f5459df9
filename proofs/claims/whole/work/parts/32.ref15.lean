/-! ===== the reference: ringsOfGrid, ringsOf ===== -/
theorem ax_xr_at {h a b p : Nat} {L : ax_L} (hp : p < 3) : ∀ n, n ≤ 3 → ax_xr h a b n L h (3 * a + p) = (if p < n then L h (3 * b + p) else L h (3 * a + p)) ∧ ax_xr h a b n L h (3 * b + p) = (if p < n then L h (3 * a + p) else L h (3 * b + p))
  | 0, _ => ⟨by rw [if_neg (by omega)]; rfl, by rw [if_neg (by omega)]; rfl⟩
  | n + 1, hn => by
    have ih := ax_xr_at (h := h) (a := a) (b := b) (L := L) hp n (by omega)
    have ihn := ax_xr_at (h := h) (a := a) (b := b) (p := n) (L := L) (by omega) n (by omega)
    rw [if_neg (Nat.lt_irrefl n), if_neg (Nat.lt_irrefl n)] at ihn
    have e : ∀ x, ax_xr h a b (n + 1) L h x = if x = 3 * b + n then L h (3 * a + n) else if x = 3 * a + n then L h (3 * b + n) else ax_xr h a b n L h x := by
      intro x
      show ax_u (ax_u _ h _ _) h _ _ h x = _
      rw [ax_u_eq]
      show (if x = 3 * b + n then _ else ax_u _ h _ _ h x) = _
      rw [ax_u_eq, ihn.1, ihn.2]
    rw [e, e]
    by_cases hpn : p = n
    · subst hpn
      constructor
      · rw [if_pos (Nat.lt_succ_self p)]
        by_cases hab : a = b
        · subst hab; rw [if_pos rfl]
        · rw [if_neg (by omega), if_pos rfl]
      · rw [if_pos rfl, if_pos (Nat.lt_succ_self p)]
    · have hl : (p < n + 1) ↔ (p < n) := by omega
      constructor
      · rw [if_neg (show ¬ 3 * a + p = 3 * b + n by omega), if_neg (show ¬ 3 * a + p = 3 * a + n by omega), ih.1]
        simp only [hl]
      · rw [if_neg (show ¬ 3 * b + p = 3 * b + n by omega), if_neg (show ¬ 3 * b + p = 3 * a + n by omega), ih.2]
        simp only [hl]
theorem ax_xc_at {h a b : Nat} {L : ax_L} (ha : a < 3) (hb : b < 3) : ∀ n r, ax_xc h a b n L h (3 * r + a) = (if r < n then L h (3 * r + b) else L h (3 * r + a)) ∧ ax_xc h a b n L h (3 * r + b) = (if r < n then L h (3 * r + a) else L h (3 * r + b))
  | 0, r => ⟨by rw [if_neg (by omega)]; rfl, by rw [if_neg (by omega)]; rfl⟩
  | n + 1, r => by
    have ih := ax_xc_at (h := h) (L := L) ha hb n r
    have ihn := ax_xc_at (h := h) (L := L) ha hb n n
    rw [if_neg (Nat.lt_irrefl n), if_neg (Nat.lt_irrefl n)] at ihn
    have e : ∀ x, ax_xc h a b (n + 1) L h x = if x = 3 * n + b then L h (3 * n + a) else if x = 3 * n + a then L h (3 * n + b) else ax_xc h a b n L h x := by
      intro x
      show ax_u (ax_u _ h _ _) h _ _ h x = _
      rw [ax_u_eq]
      show (if x = 3 * n + b then _ else ax_u _ h _ _ h x) = _
      rw [ax_u_eq, ihn.1, ihn.2]
    rw [e, e]
    by_cases hpn : r = n
    · subst hpn
      constructor
      · rw [if_pos (Nat.lt_succ_self r)]
        by_cases hab : a = b
        · subst hab; rw [if_pos rfl]
        · rw [if_neg (by omega), if_pos rfl]
      · rw [if_pos rfl, if_pos (Nat.lt_succ_self r)]
    · have hl : (r < n + 1) ↔ (r < n) := by omega
      constructor
      · rw [if_neg (show ¬ 3 * r + a = 3 * n + b by omega), if_neg (show ¬ 3 * r + a = 3 * n + a by omega), ih.1]
        simp only [hl]
      · rw [if_neg (show ¬ 3 * r + b = 3 * n + b by omega), if_neg (show ¬ 3 * r + b = 3 * n + a by omega), ih.2]
        simp only [hl]
theorem ax_br0_ne {h d t wd : Nat} {L : ax_L} (hd : d < wd) (hw : wd ≤ 3) (hdt : d < t) (e : (ax_br0 h d t wd L).1 = true) : ¬ (ax_br0 h d t wd L).2 h (4 * d) = 0 := by
  cases hb : ax_gb (L h) d wd (3 * t) with
  | none =>
    have : ax_br0 h d t wd L = (false, L) := by unfold ax_br0; rw [hb]
    rw [this] at e
    cases e
  | some q =>
    have e2 : ax_br0 h d t wd L = (true, ax_xc h d (q % 3) t (ax_xr h d (q / 3) wd L)) := by unfold ax_br0; rw [hb]
    obtain ⟨q1, q2, q3, q4, q5⟩ := ax_gb_some hb
    rw [e2]
    show ¬ ax_xc h d (q % 3) t (ax_xr h d (q / 3) wd L) h (4 * d) = 0
    rw [show 4 * d = 3 * d + d by omega, (ax_xc_at (by omega) (by omega) t d).1, if_pos hdt, (ax_xr_at (by omega) wd hw).1, if_pos q4, show 3 * (q / 3) + q % 3 = q by omega]
    exact q5
/-- the grid comes to rings: what the loop makes, by at most so many turns -/
def ax_rg (h r t wd : Nat) : Nat → Nat → ax_L → Option ax_L
  | 0, _, _ => none
  | n + 1, d, L => if d < wd ∧ d < t then (bif (ax_br0 h d t wd L).1 then (bif (ax_cls h d t wd (ax_br0 h d t wd L).2).1 then ax_rg h r t wd n (d + 1) (ax_u (ax_cls h d t wd (ax_br0 h d t wd L).2).2 r d (ax_abs ((ax_cls h d t wd (ax_br0 h d t wd L).2).2 h (4 * d)))) else ax_rg h r t wd n d (ax_cls h d t wd (ax_br0 h d t wd L).2).2) else some (ax_br0 h d t wd L).2) else some L
/-- what ringsOfGrid makes -/
def ax_G1 (m t wd fu : Nat) (L : ax_L) : Option ax_L := (ax_rg (m + 12) (m + 13) t wd fu 0 (ax_t0 (m + 13) wd L)).bind (ax_o3 (m + 13) wd wd)
set_option maxRecDepth 20000 in
/-- ringsOfGrid() -/
theorem k_X11_ringsOfGrid (l : Launch) (D : va_G) (T : Nat → ClassId) (o d : Nat) (G : ax_G) (I : ax_I) (L : ax_L) (m t wd fu : Nat) (Y : ax_L) (hM : ax_Mod G m) (hT : I m 16 = nI t) (ht : t ≤ 8) (hW : I m 17 = nI wd) (hw : wd ≤ 3) (hY : ax_G1 m t wd fu L = some Y) (hd : 2 ≤ d) : ax_Con l D T o yX11_ringsOfGrid cX11_ringsOfGrid 2 none d 0 0 [.ref m] G I L (fun v G' I' L' => v = none ∧ G = G' ∧ ax_u I m 18 (nI wd) = I' ∧ Y = L') := by
  refine ax_enter (by decide +kernel) (Nat.le_of_ble_eq_true rfl) ?_
  intro p_ e_ s_ m_ args_ below_ meth_ c_ C _
  refine x_lvs (lv' := [(0, .ref m)]) rfl ?_
  obtain ⟨Q, hQ, hO⟩ := Option.bind_eq_some_iff.mp hY
  have hloop : ∀ (n_ e : Nat) (Z : ax_L), e ≤ wd → ax_rg (m + 12) (m + 13) t wd n_ e Z = some Q → ax_XM p_ l e_ s_ m_ args_ below_ meth_ c_ 2 D T o d 0 0 G (fun v G' I' L' => v = none ∧ G = G' ∧ ax_u I m 18 (nI wd) = I' ∧ Y = L') G (ax_u I m 18 (nI wd)) Z 33 [(1, .int (nI e)), (0, .ref m)] [] := by
    intro n_
    induction n_ with
    | zero =>
      intro e Z he hz
      cases hz
    | succ n_ ih_ =>
      intro e Z he hz
      have hz2 : (if e < wd ∧ e < t then (bif (ax_br0 (m + 12) e t wd Z).1 then (bif (ax_cls (m + 12) e t wd (ax_br0 (m + 12) e t wd Z).2).1 then ax_rg (m + 12) (m + 13) t wd n_ (e + 1) (ax_u (ax_cls (m + 12) e t wd (ax_br0 (m + 12) e t wd Z).2).2 (m + 13) e (ax_abs ((ax_cls (m + 12) e t wd (ax_br0 (m + 12) e t wd Z).2).2 (m + 12) (4 * e)))) else ax_rg (m + 12) (m + 13) t wd n_ e (ax_cls (m + 12) e t wd (ax_br0 (m + 12) e t wd Z).2).2) else some (ax_br0 (m + 12) e t wd Z).2) else some Z) = some Q := hz
      refine x_iload_n C (dk ddX11_ringsOfGrid 19 rfl) rfl ?_
      refine x_aload_n C (dk ddX11_ringsOfGrid 20 rfl) rfl ?_
      refine x_geti C flX11_222 rfl (hM.lt (j := 0) (by decide)) hM.2.1 (dk ddX11_ringsOfGrid 21 rfl) ?_
      rw [show ((ax_u I m 18 (nI wd)) m 17) = nI wd from (by first | exact hW | (rw [ax_u_nj (by decide)]; exact hW) | (rw [ax_u_nj (by decide), ax_u_nj (by decide)]; exact hW))]
      refine x_icmp_ge_n C (tgt := 88) (dk ddX11_ringsOfGrid 22 rfl) (by decide) (by omega) (by omega) (fun h38 => ?_) (fun h38 => ?_)
      · rw [if_neg (fun q_ => absurd q_.1 (by omega))] at hz2
        obtain rfl := Option.some.inj hz2
        refine x_aload_n C (dk ddX11_ringsOfGrid 48 rfl) rfl ?_
        refine x_callV C (ci := 11) (As := []) (k_X11_ordersRings l D T o (d - 1) G (ax_u I m 18 (nI wd)) Z m wd Y hM (ax_u_at _ _ _ _) (by omega) hO (by omega)) mlX11_245 rfl rfl (hM.lt (j := 0) (by decide)) hM.2.1 ⟨by show d - 1 + 1 ≤ d; omega, by show 40 * (d - 1 + 1) ≤ 40 * d; omega⟩ ⟨Nat.le_refl _, Nat.le_refl _⟩ rfl (Nat.le_of_ble_eq_true rfl) (dk ddX11_ringsOfGrid 49 rfl) ?_
        rintro v_ G_ I_ L_ ⟨rfl, rfl, rfl, rfl⟩
        exact x_vret C rfl ⟨rfl, rfl, rfl, rfl⟩ rfl rfl (dk ddX11_ringsOfGrid 50 rfl)
      · refine x_iload_n C (dk ddX11_ringsOfGrid 23 rfl) rfl ?_
        refine x_aload_n C (dk ddX11_ringsOfGrid 24 rfl) rfl ?_
        refine x_geti C flX11_225 rfl (hM.lt (j := 0) (by decide)) hM.2.1 (dk ddX11_ringsOfGrid 25 rfl) ?_
        rw [show ((ax_u I m 18 (nI wd)) m 16) = nI t from (by first | exact hT | (rw [ax_u_nj (by decide)]; exact hT) | (rw [ax_u_nj (by decide), ax_u_nj (by decide)]; exact hT))]
        refine x_icmp_ge_n C (tgt := 88) (dk ddX11_ringsOfGrid 26 rfl) (by decide) (by omega) (by omega) (fun h46 => ?_) (fun h46 => ?_)
        · rw [if_neg (fun q_ => absurd q_.2 (by omega))] at hz2
          obtain rfl := Option.some.inj hz2
          refine x_aload_n C (dk ddX11_ringsOfGrid 48 rfl) rfl ?_
          refine x_callV C (ci := 11) (As := []) (k_X11_ordersRings l D T o (d - 1) G (ax_u I m 18 (nI wd)) Z m wd Y hM (ax_u_at _ _ _ _) (by omega) hO (by omega)) mlX11_245 rfl rfl (hM.lt (j := 0) (by decide)) hM.2.1 ⟨by show d - 1 + 1 ≤ d; omega, by show 40 * (d - 1 + 1) ≤ 40 * d; omega⟩ ⟨Nat.le_refl _, Nat.le_refl _⟩ rfl (Nat.le_of_ble_eq_true rfl) (dk ddX11_ringsOfGrid 49 rfl) ?_
          rintro v_ G_ I_ L_ ⟨rfl, rfl, rfl, rfl⟩
          exact x_vret C rfl ⟨rfl, rfl, rfl, rfl⟩ rfl rfl (dk ddX11_ringsOfGrid 50 rfl)
        · refine x_aload_n C (dk ddX11_ringsOfGrid 27 rfl) rfl ?_
          refine x_iload_n C (dk ddX11_ringsOfGrid 28 rfl) rfl ?_
          refine x_callV C (ci := 11) (As := [.int (nI e)]) (k_X11_brings l D T o (d - 1) G (ax_u I m 18 (nI wd)) Z m e t wd hM ((ax_u_nj (by decide)).trans hT) ht ((ax_u_nj (by decide)).trans hW) hw (by omega) (by omega) (by omega)) mlX11_239 rfl rfl (hM.lt (j := 0) (by decide)) hM.2.1 ⟨by show d - 1 + 1 ≤ d; omega, by show 40 * (d - 1 + 1) ≤ 40 * d; omega⟩ ⟨Nat.le_refl _, Nat.le_refl _⟩ rfl (Nat.le_of_ble_eq_true rfl) (dk ddX11_ringsOfGrid 29 rfl) ?_
          rintro v_ G_ I_ L_ ⟨rfl, rfl, rfl, rfl⟩
          refine x_if_eq_b C (tgt := 88) (dk ddX11_ringsOfGrid 30 rfl) (by decide) (fun h54 => ?_) (fun h54 => ?_)
          · rw [if_pos ⟨by omega, by omega⟩, h54] at hz2
            obtain rfl := Option.some.inj hz2
            refine x_aload_n C (dk ddX11_ringsOfGrid 48 rfl) rfl ?_
            refine x_callV C (ci := 11) (As := []) (k_X11_ordersRings l D T o (d - 1) G (ax_u I m 18 (nI wd)) ((ax_br0 (m + 12) e t wd Z).2) m wd Y hM (ax_u_at _ _ _ _) (by omega) hO (by omega)) mlX11_245 rfl rfl (hM.lt (j := 0) (by decide)) hM.2.1 ⟨by show d - 1 + 1 ≤ d; omega, by show 40 * (d - 1 + 1) ≤ 40 * d; omega⟩ ⟨Nat.le_refl _, Nat.le_refl _⟩ rfl (Nat.le_of_ble_eq_true rfl) (dk ddX11_ringsOfGrid 49 rfl) ?_
            rintro v_ G_ I_ L_ ⟨rfl, rfl, rfl, rfl⟩
            exact x_vret C rfl ⟨rfl, rfl, rfl, rfl⟩ rfl rfl (dk ddX11_ringsOfGrid 50 rfl)
          · rw [if_pos ⟨by omega, by omega⟩, h54] at hz2
            refine x_aload_n C (dk ddX11_ringsOfGrid 31 rfl) rfl ?_
            refine x_iload_n C (dk ddX11_ringsOfGrid 32 rfl) rfl ?_
            refine x_callV C (ci := 11) (As := [.int (nI e)]) (k_X11_clears l D T o (d - 1) G (ax_u I m 18 (nI wd)) ((ax_br0 (m + 12) e t wd Z).2) m e t wd hM ((ax_u_nj (by decide)).trans hT) ht ((ax_u_nj (by decide)).trans hW) hw (by omega) (by omega) (ax_br0_ne (by omega) hw (by omega) h54) (by omega)) mlX11_242 rfl rfl (hM.lt (j := 0) (by decide)) hM.2.1 ⟨by show d - 1 + 1 ≤ d; omega, by show 40 * (d - 1 + 1) ≤ 40 * d; omega⟩ ⟨Nat.le_refl _, Nat.le_refl _⟩ rfl (Nat.le_of_ble_eq_true rfl) (dk ddX11_ringsOfGrid 33 rfl) ?_
            rintro v_ G_ I_ L_ ⟨rfl, rfl, rfl, rfl⟩
            refine x_if_eq_b C (tgt := 33) (dk ddX11_ringsOfGrid 34 rfl) (by decide) (fun h62 => ?_) (fun h62 => ?_)
            · have hz3 := hz2
              rw [cond_true, h62] at hz3
              refine x_sub [0, 1] (lv' := [(1, .int (nI e)), (0, .ref m)]) rfl ?_
              exact ih_ (e) _ (by omega) hz3
            · refine x_aload_n C (dk ddX11_ringsOfGrid 35 rfl) rfl ?_
              refine x_getr C flX11_47 rfl (hM.lt (j := 0) (by decide)) hM.2.1 (show ax_R G m 15 = some (m + 13) from (hM.2.2 12 _ rfl).1) (dk ddX11_ringsOfGrid 36 rfl) ?_
              refine x_iload_n C (dk ddX11_ringsOfGrid 37 rfl) rfl ?_
              refine x_aload_n C (dk ddX11_ringsOfGrid 38 rfl) rfl ?_
              refine x_getr C flX11_44 rfl (hM.lt (j := 0) (by decide)) hM.2.1 (show ax_R G m 14 = some (m + 12) from (hM.2.2 11 _ rfl).1) (dk ddX11_ringsOfGrid 39 rfl) ?_
              refine x_iconst C (v := nI 4) (dk ddX11_ringsOfGrid 40 rfl) (by decide) ?_
              refine x_iload_n C (dk ddX11_ringsOfGrid 41 rfl) rfl ?_
              refine x_imul_n C (dk ddX11_ringsOfGrid 42 rfl) ?_
              refine x_lald_n C (hM.lt (j := 12) (by decide)) (hM.2.2 11 _ rfl).2.1 (show ax_N G (m + 12) = 24 from (hM.2.2 11 _ rfl).2.2) (by omega) (by decide) (dk ddX11_ringsOfGrid 43 rfl) ?_
              refine x_callS C (As := [.long (((ax_cls (m + 12) e t wd ((ax_br0 (m + 12) e t wd Z).2)).2) (m + 12) (4 * e))]) (k_X11_sizeOf l D T o (d - 1) G (ax_u I m 18 (nI wd)) ((ax_cls (m + 12) e t wd ((ax_br0 (m + 12) e t wd Z).2)).2) (((ax_cls (m + 12) e t wd ((ax_br0 (m + 12) e t wd Z).2)).2) (m + 12) (4 * e))) mlX11_136 ⟨by show d - 1 + 1 ≤ d; omega, by show 40 * (d - 1 + 1) ≤ 40 * d; omega⟩ ⟨Nat.le_refl _, Nat.le_refl _⟩ rfl (Nat.le_of_ble_eq_true rfl) (dk ddX11_ringsOfGrid 44 rfl) ?_
              rintro v_ G_ I_ L_ ⟨rfl, rfl, rfl, rfl⟩
              refine x_last_n C (hM.lt (j := 13) (by decide)) (hM.2.2 12 _ rfl).2.1 (show ax_N G (m + 13) = 9 from (hM.2.2 12 _ rfl).2.2) (by omega) (by decide) (dk ddX11_ringsOfGrid 45 rfl) ?_
              refine x_iinc C (v := nI (e + 1)) (lv' := [(1, .int (nI (e + 1))), (0, .ref m)]) (dk ddX11_ringsOfGrid 46 rfl) rfl (nI_add e 1) (by decide) rfl ?_
              refine x_goto C (tgt := 33) (dk ddX11_ringsOfGrid 47 rfl) (by decide) ?_
              have hz3 := hz2
              rw [cond_true, h62] at hz3
              refine x_sub [0, 1] (lv' := [(1, .int (nI (e + 1))), (0, .ref m)]) rfl ?_
              exact ih_ (e + 1) _ (by omega) hz3
  have hl0 : ∀ (n_ k : Nat), k + n_ = wd → ax_XM p_ l e_ s_ m_ args_ below_ meth_ c_ 2 D T o d 0 0 G (fun v G' I' L' => v = none ∧ G = G' ∧ ax_u I m 18 (nI wd) = I' ∧ Y = L') G (ax_u I m 18 (nI wd)) (ax_t0 (m + 13) k L) 10 [(1, .int (nI k)), (0, .ref m)] [] := by
    intro n_
    induction n_ with
    | zero =>
      intro k hk_
      rw [show k = wd by omega]
      refine x_iload_n C (dk ddX11_ringsOfGrid 6 rfl) rfl ?_
      refine x_aload_n C (dk ddX11_ringsOfGrid 7 rfl) rfl ?_
      refine x_geti C flX11_222 rfl (hM.lt (j := 0) (by decide)) hM.2.1 (dk ddX11_ringsOfGrid 8 rfl) ?_
      rw [show ((ax_u I m 18 (nI wd)) m 17) = nI wd from (by first | exact hW | (rw [ax_u_nj (by decide)]; exact hW) | (rw [ax_u_nj (by decide), ax_u_nj (by decide)]; exact hW))]
      refine x_icmp_ge_n C (tgt := 31) (dk ddX11_ringsOfGrid 9 rfl) (by decide) (by omega) (by omega) (fun h15 => ?_) (fun h15 => ?_)
      · refine x_iconst C (v := nI 0) (dk ddX11_ringsOfGrid 17 rfl) (by decide) ?_
        refine x_istore_n C (lv' := [(1, .int (nI 0)), (0, .ref m)]) (dk ddX11_ringsOfGrid 18 rfl) (by decide) rfl ?_
        refine x_sub [0, 1] (lv' := [(1, .int (nI 0)), (0, .ref m)]) rfl ?_
        exact hloop fu 0 _ (by omega) hQ
      · exfalso
        omega
    | succ n_ ih_ =>
      intro k hk_
      refine x_iload_n C (dk ddX11_ringsOfGrid 6 rfl) rfl ?_
      refine x_aload_n C (dk ddX11_ringsOfGrid 7 rfl) rfl ?_
      refine x_geti C flX11_222 rfl (hM.lt (j := 0) (by decide)) hM.2.1 (dk ddX11_ringsOfGrid 8 rfl) ?_
      rw [show ((ax_u I m 18 (nI wd)) m 17) = nI wd from (by first | exact hW | (rw [ax_u_nj (by decide)]; exact hW) | (rw [ax_u_nj (by decide), ax_u_nj (by decide)]; exact hW))]
      refine x_icmp_ge_n C (tgt := 31) (dk ddX11_ringsOfGrid 9 rfl) (by decide) (by omega) (by omega) (fun h15 => ?_) (fun h15 => ?_)
      · exfalso
        omega
      · refine x_aload_n C (dk ddX11_ringsOfGrid 10 rfl) rfl ?_
        refine x_getr C flX11_47 rfl (hM.lt (j := 0) (by decide)) hM.2.1 (show ax_R G m 15 = some (m + 13) from (hM.2.2 12 _ rfl).1) (dk ddX11_ringsOfGrid 11 rfl) ?_
        refine x_iload_n C (dk ddX11_ringsOfGrid 12 rfl) rfl ?_
        refine x_lconst C (v := 0) (dk ddX11_ringsOfGrid 13 rfl) (by decide) ?_
        refine x_last_n C (hM.lt (j := 13) (by decide)) (hM.2.2 12 _ rfl).2.1 (show ax_N G (m + 13) = 9 from (hM.2.2 12 _ rfl).2.2) (by omega) (by decide) (dk ddX11_ringsOfGrid 14 rfl) ?_
        refine x_iinc C (v := nI (k + 1)) (lv' := [(1, .int (nI (k + 1))), (0, .ref m)]) (dk ddX11_ringsOfGrid 15 rfl) rfl (nI_add k 1) (by decide) rfl ?_
        refine x_goto C (tgt := 10) (dk ddX11_ringsOfGrid 16 rfl) (by decide) ?_
        refine x_sub [0, 1] (lv' := [(1, .int (nI (k + 1))), (0, .ref m)]) rfl ?_
        exact ih_ (k + 1) (by omega)
  refine x_aload_n C (dk ddX11_ringsOfGrid 0 rfl) rfl ?_
  refine x_aload_n C (dk ddX11_ringsOfGrid 1 rfl) rfl ?_
  refine x_geti C flX11_222 rfl (hM.lt (j := 0) (by decide)) hM.2.1 (dk ddX11_ringsOfGrid 2 rfl) ?_
  rw [show (I m 17) = nI wd from (by first | exact hW | (rw [ax_u_nj (by decide)]; exact hW) | (rw [ax_u_nj (by decide), ax_u_nj (by decide)]; exact hW))]
  refine x_puti C flX11_236 fw11 rfl rfl (hM.lt (j := 0) (by decide)) hM.2.1 rfl rfl (dk ddX11_ringsOfGrid 3 rfl) ?_
  refine x_iconst C (v := nI 0) (dk ddX11_ringsOfGrid 4 rfl) (by decide) ?_
  refine x_istore_n C (lv' := [(1, .int (nI 0)), (0, .ref m)]) (dk ddX11_ringsOfGrid 5 rfl) (by decide) rfl ?_
  exact hl0 wd 0 (by omega)
/-- relation r of g comes to the grid; all of them, the first so many -/
def ax_gf1 (S : Nat → Int32) (h g r : Nat) : Nat → ax_L → ax_L
  | 0, L => L
  | n + 1, L => ax_u (ax_gf1 S h g r n L) h (3 * r + n) (S (14 * g + 2 + 3 * r + n)).toInt64
def ax_gf (S : Nat → Int32) (h g wd : Nat) : Nat → ax_L → ax_L
  | 0, L => L
  | n + 1, L => ax_gf1 S h g n wd (ax_gf S h g wd n L)
/-- what ringsOf makes -/
def ax_R1 (m g rc wd fu : Nat) (S : Nat → Int32) (L : ax_L) : Option ax_L := ax_G1 m rc wd fu (ax_gf S (m + 12) g wd rc L)
/-- the fields then -/
def ax_RI (m rc wd : Nat) (I : ax_I) : ax_I := ax_u (ax_u (ax_u I m 16 (nI rc)) m 17 (nI wd)) m 18 (nI wd)
set_option maxRecDepth 20000 in
/-- ringsOf(g) -/
theorem k_X11_ringsOf (l : Launch) (D : va_G) (T : Nat → ClassId) (o d : Nat) (G : ax_G) (I : ax_I) (L : ax_L) (m g rc wd fu : Nat) (S : Nat → Int32) (Y : ax_L) (hM : ax_Mod G m) (hS : I (m + 1) = S) (hg : g < 6) (hn : S (14 * g) = nI wd) (hw : wd ≤ 3) (hr : S (14 * g + 1) = nI rc) (hr4 : rc ≤ 4) (hY : ax_R1 m g rc wd fu S L = some Y) (hd : 3 ≤ d) : ax_Con l D T o yX11_ringsOf cX11_ringsOf 4 none d 0 0 [.ref m, .int (nI g)] G I L (fun v G' I' L' => v = none ∧ G = G' ∧ ax_RI m rc wd I = I' ∧ Y = L') := by
  refine ax_enter (by decide +kernel) (Nat.le_of_ble_eq_true rfl) ?_
  intro p_ e_ s_ m_ args_ below_ meth_ c_ C _
  refine x_lvs (lv' := [(0, .ref m), (1, .int (nI g))]) rfl ?_
  have hloop : ∀ (n_ k : Nat), k + n_ = rc → ax_XM p_ l e_ s_ m_ args_ below_ meth_ c_ 4 D T o d 0 0 G (fun v G' I' L' => v = none ∧ G = G' ∧ ax_RI m rc wd I = I' ∧ Y = L') G (ax_u (ax_u I m 16 (nI rc)) m 17 (nI wd)) (ax_gf S (m + 12) g wd k L) 26 [(2, .int (nI k)), (0, .ref m), (1, .int (nI g))] [] := by
    intro n_
    induction n_ with
    | zero =>
      intro k hk_
      rw [show k = rc by omega]
      refine x_iload_n C (dk ddX11_ringsOf 17 rfl) rfl ?_
      refine x_aload_n C (dk ddX11_ringsOf 18 rfl) rfl ?_
      refine x_geti C flX11_225 rfl (hM.lt (j := 0) (by decide)) hM.2.1 (dk ddX11_ringsOf 19 rfl) ?_
      rw [show ((ax_u (ax_u I m 16 (nI rc)) m 17 (nI wd)) m 16) = nI rc from (by simp [ax_u])]
      refine x_icmp_ge_n C (tgt := 84) (dk ddX11_ringsOf 20 rfl) (by decide) (by omega) (by omega) (fun h31 => ?_) (fun h31 => ?_)
      · refine x_aload_n C (dk ddX11_ringsOf 54 rfl) rfl ?_
        refine x_callV C (ci := 11) (As := []) (k_X11_ringsOfGrid l D T o (d - 1) G (ax_u (ax_u I m 16 (nI rc)) m 17 (nI wd)) (ax_gf S (m + 12) g wd rc L) m rc wd fu Y hM (by simp [ax_u]) (by omega) (by simp [ax_u]) hw hY (by omega)) mlX11_251 rfl rfl (hM.lt (j := 0) (by decide)) hM.2.1 ⟨by show d - 1 + 1 ≤ d; omega, by show 40 * (d - 1 + 1) ≤ 40 * d; omega⟩ ⟨Nat.le_refl _, Nat.le_refl _⟩ rfl (Nat.le_of_ble_eq_true rfl) (dk ddX11_ringsOf 55 rfl) ?_
        rintro v_ G_ I_ L_ ⟨rfl, rfl, rfl, rfl⟩
        exact x_vret C rfl ⟨rfl, rfl, rfl, rfl⟩ rfl rfl (dk ddX11_ringsOf 56 rfl)
      · exfalso
        omega
    | succ n_ ih_ =>
      intro k hk_
      refine x_iload_n C (dk ddX11_ringsOf 17 rfl) rfl ?_
      refine x_aload_n C (dk ddX11_ringsOf 18 rfl) rfl ?_
      refine x_geti C flX11_225 rfl (hM.lt (j := 0) (by decide)) hM.2.1 (dk ddX11_ringsOf 19 rfl) ?_
      rw [show ((ax_u (ax_u I m 16 (nI rc)) m 17 (nI wd)) m 16) = nI rc from (by simp [ax_u])]
      refine x_icmp_ge_n C (tgt := 84) (dk ddX11_ringsOf 20 rfl) (by decide) (by omega) (by omega) (fun h31 => ?_) (fun h31 => ?_)
      · exfalso
        omega
      · refine x_iconst C (v := nI 0) (dk ddX11_ringsOf 21 rfl) (by decide) ?_
        refine x_istore_n C (lv' := [(3, .int (nI 0)), (2, .int (nI k)), (0, .ref m), (1, .int (nI g))]) (dk ddX11_ringsOf 22 rfl) (by decide) rfl ?_
        have hin : ∀ (nq_ q : Nat), q + nq_ = wd → ax_XM p_ l e_ s_ m_ args_ below_ meth_ c_ 4 D T o d 0 0 G (fun v G' I' L' => v = none ∧ G = G' ∧ ax_RI m rc wd I = I' ∧ Y = L') G (ax_u (ax_u I m 16 (nI rc)) m 17 (nI wd)) (ax_gf1 S (m + 12) g k q (ax_gf S (m + 12) g wd k L)) 36 [(3, .int (nI q)), (2, .int (nI k)), (0, .ref m), (1, .int (nI g))] [] := by
          intro nq_
          induction nq_ with
          | zero =>
            intro q hkq_
            rw [show q = wd by omega]
            refine x_iload_n C (dk ddX11_ringsOf 23 rfl) rfl ?_
            refine x_aload_n C (dk ddX11_ringsOf 24 rfl) rfl ?_
            refine x_geti C flX11_222 rfl (hM.lt (j := 0) (by decide)) hM.2.1 (dk ddX11_ringsOf 25 rfl) ?_
            rw [show ((ax_u (ax_u I m 16 (nI rc)) m 17 (nI wd)) m 17) = nI wd from (by simp [ax_u])]
            refine x_icmp_ge_n C (tgt := 78) (dk ddX11_ringsOf 26 rfl) (by decide) (by omega) (by omega) (fun h41 => ?_) (fun h41 => ?_)
            · refine x_iinc C (v := nI (k + 1)) (lv' := [(2, .int (nI (k + 1))), (3, .int (nI wd)), (0, .ref m), (1, .int (nI g))]) (dk ddX11_ringsOf 52 rfl) rfl (nI_add k 1) (by decide) rfl ?_
              refine x_goto C (tgt := 26) (dk ddX11_ringsOf 53 rfl) (by decide) ?_
              refine x_sub [0, 2, 3] (lv' := [(2, .int (nI (k + 1))), (0, .ref m), (1, .int (nI g))]) rfl ?_
              exact ih_ (k + 1) (by omega)
            · exfalso
              omega
          | succ nq_ ihq_ =>
            intro q hkq_
            refine x_iload_n C (dk ddX11_ringsOf 23 rfl) rfl ?_
            refine x_aload_n C (dk ddX11_ringsOf 24 rfl) rfl ?_
            refine x_geti C flX11_222 rfl (hM.lt (j := 0) (by decide)) hM.2.1 (dk ddX11_ringsOf 25 rfl) ?_
            rw [show ((ax_u (ax_u I m 16 (nI rc)) m 17 (nI wd)) m 17) = nI wd from (by simp [ax_u])]
            refine x_icmp_ge_n C (tgt := 78) (dk ddX11_ringsOf 26 rfl) (by decide) (by omega) (by omega) (fun h41 => ?_) (fun h41 => ?_)
            · exfalso
              omega
            · refine x_aload_n C (dk ddX11_ringsOf 27 rfl) rfl ?_
              refine x_getr C flX11_44 rfl (hM.lt (j := 0) (by decide)) hM.2.1 (show ax_R G m 14 = some (m + 12) from (hM.2.2 11 _ rfl).1) (dk ddX11_ringsOf 28 rfl) ?_
              refine x_iconst C (v := nI 3) (dk ddX11_ringsOf 29 rfl) (by decide) ?_
              refine x_iload_n C (dk ddX11_ringsOf 30 rfl) rfl ?_
              refine x_imul_n C (dk ddX11_ringsOf 31 rfl) ?_
              refine x_iload_n C (dk ddX11_ringsOf 32 rfl) rfl ?_
              refine x_iadd_n C (dk ddX11_ringsOf 33 rfl) ?_
              refine x_aload_n C (dk ddX11_ringsOf 34 rfl) rfl ?_
              refine x_getr C flX11_7 rfl (hM.lt (j := 0) (by decide)) hM.2.1 (show ax_R G m 0 = some (m + 1) from (hM.2.2 0 _ rfl).1) (dk ddX11_ringsOf 35 rfl) ?_
              refine x_bipush C (v := nI 14) (dk ddX11_ringsOf 36 rfl) (by decide) ?_
              refine x_iload_n C (dk ddX11_ringsOf 37 rfl) rfl ?_
              refine x_imul_n C (dk ddX11_ringsOf 38 rfl) ?_
              refine x_iconst C (v := nI 2) (dk ddX11_ringsOf 39 rfl) (by decide) ?_
              refine x_iadd_n C (dk ddX11_ringsOf 40 rfl) ?_
              refine x_iconst C (v := nI 3) (dk ddX11_ringsOf 41 rfl) (by decide) ?_
              refine x_iload_n C (dk ddX11_ringsOf 42 rfl) rfl ?_
              refine x_imul_n C (dk ddX11_ringsOf 43 rfl) ?_
              refine x_iadd_n C (dk ddX11_ringsOf 44 rfl) ?_
              refine x_iload_n C (dk ddX11_ringsOf 45 rfl) rfl ?_
              refine x_iadd_n C (dk ddX11_ringsOf 46 rfl) ?_
              refine x_iald_n C (hM.lt (j := 1) (by decide)) (hM.2.2 0 _ rfl).2.1 (show ax_N G (m + 1) = 353 from (hM.2.2 0 _ rfl).2.2) (by omega) (by decide) (dk ddX11_ringsOf 47 rfl) ?_
              rw [show ((ax_u (ax_u I m 16 (nI rc)) m 17 (nI wd)) (m + 1) (14 * g + 2 + 3 * k + q)) = S (14 * g + 2 + 3 * k + q) from (congrFun ((ax_u_ne (by omega)).trans ((ax_u_ne (by omega)).trans hS)) _)]
              refine x_i2l C (dk ddX11_ringsOf 48 rfl) ?_
              refine x_last_n C (hM.lt (j := 12) (by decide)) (hM.2.2 11 _ rfl).2.1 (show ax_N G (m + 12) = 24 from (hM.2.2 11 _ rfl).2.2) (by omega) (by decide) (dk ddX11_ringsOf 49 rfl) ?_
              refine x_iinc C (v := nI (q + 1)) (lv' := [(3, .int (nI (q + 1))), (2, .int (nI k)), (0, .ref m), (1, .int (nI g))]) (dk ddX11_ringsOf 50 rfl) rfl (nI_add q 1) (by decide) rfl ?_
              refine x_goto C (tgt := 36) (dk ddX11_ringsOf 51 rfl) (by decide) ?_
              refine x_sub [0, 1, 2, 3] (lv' := [(3, .int (nI (q + 1))), (2, .int (nI k)), (0, .ref m), (1, .int (nI g))]) rfl ?_
              exact ihq_ (q + 1) (by omega)
        exact hin wd 0 (by omega)
  refine x_aload_n C (dk ddX11_ringsOf 0 rfl) rfl ?_
  refine x_aload_n C (dk ddX11_ringsOf 1 rfl) rfl ?_
  refine x_getr C flX11_7 rfl (hM.lt (j := 0) (by decide)) hM.2.1 (show ax_R G m 0 = some (m + 1) from (hM.2.2 0 _ rfl).1) (dk ddX11_ringsOf 2 rfl) ?_
  refine x_bipush C (v := nI 14) (dk ddX11_ringsOf 3 rfl) (by decide) ?_
  refine x_iload_n C (dk ddX11_ringsOf 4 rfl) rfl ?_
  refine x_imul_n C (dk ddX11_ringsOf 5 rfl) ?_
  refine x_iconst C (v := nI 1) (dk ddX11_ringsOf 6 rfl) (by decide) ?_
  refine x_iadd_n C (dk ddX11_ringsOf 7 rfl) ?_
  refine x_iald_n C (hM.lt (j := 1) (by decide)) (hM.2.2 0 _ rfl).2.1 (show ax_N G (m + 1) = 353 from (hM.2.2 0 _ rfl).2.2) (by omega) (by decide) (dk ddX11_ringsOf 8 rfl) ?_
  rw [show (I (m + 1) (14 * g + 1)) = nI rc from ((congrFun hS _).trans hr)]
  refine x_puti C flX11_225 fw11 rfl rfl (hM.lt (j := 0) (by decide)) hM.2.1 rfl rfl (dk ddX11_ringsOf 9 rfl) ?_
  refine x_aload_n C (dk ddX11_ringsOf 10 rfl) rfl ?_
  refine x_aload_n C (dk ddX11_ringsOf 11 rfl) rfl ?_
  refine x_iload_n C (dk ddX11_ringsOf 12 rfl) rfl ?_
  refine x_callV C (ci := 11) (As := [.int (nI g)]) (k_X11_size l D T o (d - 1) G (ax_u I m 16 (nI rc)) L m g hM (by omega)) mlX11_162 rfl rfl (hM.lt (j := 0) (by decide)) hM.2.1 ⟨by show d - 1 + 1 ≤ d; omega, by show 40 * (d - 1 + 1) ≤ 40 * d; omega⟩ ⟨Nat.le_refl _, Nat.le_refl _⟩ rfl (Nat.le_of_ble_eq_true rfl) (dk ddX11_ringsOf 13 rfl) ?_
  rintro v_ G_ I_ L_ ⟨rfl, rfl, rfl, rfl⟩
  rw [show (ax_u I m 16 (nI rc)) (m + 1) (14 * g) = nI wd from ((congrFun ((ax_u_ne (by omega)).trans hS) _).trans hn)]
  refine x_puti C flX11_222 fw11 rfl rfl (hM.lt (j := 0) (by decide)) hM.2.1 rfl rfl (dk ddX11_ringsOf 14 rfl) ?_
  refine x_iconst C (v := nI 0) (dk ddX11_ringsOf 15 rfl) (by decide) ?_
  refine x_istore_n C (lv' := [(2, .int (nI 0)), (0, .ref m), (1, .int (nI g))]) (dk ddX11_ringsOf 16 rfl) (by decide) rfl ?_
  exact hloop rc 0 (by omega)

/-! ===== the reference: heaps, leastAt, rests ===== -/
/-- six places of row h of the heap become 0, the first so many -/
def ax_h0 (a h : Nat) : Nat → ax_L → ax_L
  | 0, L => L
  | n + 1, L => ax_u (ax_h0 a h n L) a (6 * h + n) 0
/-- a row comes to the heap as row h -/
def ax_hp (a h b x sh wd : Nat) (L : ax_L) : ax_L := ax_cp (ax_h0 a h 6 L) b a x (6 * h + sh) wd
set_option maxRecDepth 20000 in
/-- heaps(of, from, shift, width) -/
theorem k_X11_heaps (l : Launch) (D : va_G) (T : Nat → ClassId) (o d : Nat) (G : ax_G) (I : ax_I) (L : ax_L) (m b x sh wd h N : Nat) (hM : ax_Mod G m) (hh : I m 6 = nI h) (hh2 : h < 16) (hb : ax_La G b N) (hba : b ≠ m + 4) (hx : x + wd ≤ N) (hN : N < 2 ^ 31) (hs : sh + wd ≤ 6) : ax_Con l D T o yX11_heaps cX11_heaps 6 none d 0 0 [.ref m, .ref b, .int (nI x), .int (nI sh), .int (nI wd)] G I L (fun v G' I' L' => v = none ∧ G = G' ∧ ax_u I m 6 (nI (h + 1)) = I' ∧ ax_hp (m + 4) h b x sh wd L = L') := by
  refine ax_enter (by decide +kernel) (Nat.le_of_ble_eq_true rfl) ?_
  intro p_ e_ s_ m_ args_ below_ meth_ c_ C _
  refine x_lvs (lv' := [(0, .ref m), (1, .ref b), (2, .int (nI x)), (3, .int (nI sh)), (4, .int (nI wd))]) rfl ?_
  have hl2 : ∀ (n_ k : Nat), k + n_ = wd → ax_XM p_ l e_ s_ m_ args_ below_ meth_ c_ 6 D T o d 0 0 G (fun v G' I' L' => v = none ∧ G = G' ∧ ax_u I m 6 (nI (h + 1)) = I' ∧ ax_hp (m + 4) h b x sh wd L = L') G I (ax_cp (ax_h0 (m + 4) h 6 L) b (m + 4) x (6 * h + sh) k) 35 [(5, .int (nI k)), (0, .ref m), (1, .ref b), (2, .int (nI x)), (3, .int (nI sh)), (4, .int (nI wd))] [] := by
    intro n_
    induction n_ with
    | zero =>
      intro k hk_
      rw [show k = wd by omega]
      refine x_iload C (dk ddX11_heaps 19 rfl) rfl ?_
      refine x_iload C (dk ddX11_heaps 20 rfl) rfl ?_
      refine x_icmp_ge_n C (tgt := 71) (dk ddX11_heaps 21 rfl) (by decide) (by omega) (by omega) (fun h39 => ?_) (fun h39 => ?_)
      · refine x_aload_n C (dk ddX11_heaps 40 rfl) rfl ?_
        refine x_dup C (dk ddX11_heaps 41 rfl) rfl ?_
        refine x_geti C flX11_133 rfl (hM.lt (j := 0) (by decide)) hM.2.1 (dk ddX11_heaps 42 rfl) ?_
        rw [show (I m 6) = nI h from hh]
        refine x_iconst C (v := nI 1) (dk ddX11_heaps 43 rfl) (by decide) ?_
        refine x_iadd_n C (dk ddX11_heaps 44 rfl) ?_
        refine x_puti C flX11_133 fw11 rfl rfl (hM.lt (j := 0) (by decide)) hM.2.1 rfl rfl (dk ddX11_heaps 45 rfl) ?_
        exact x_vret C rfl ⟨rfl, rfl, rfl, rfl⟩ rfl rfl (dk ddX11_heaps 46 rfl)
      · exfalso
        omega
    | succ n_ ih_ =>
      intro k hk_
      refine x_iload C (dk ddX11_heaps 19 rfl) rfl ?_
      refine x_iload C (dk ddX11_heaps 20 rfl) rfl ?_
      refine x_icmp_ge_n C (tgt := 71) (dk ddX11_heaps 21 rfl) (by decide) (by omega) (by omega) (fun h39 => ?_) (fun h39 => ?_)
      · exfalso
        omega
      · refine x_aload_n C (dk ddX11_heaps 22 rfl) rfl ?_
        refine x_getr C flX11_19 rfl (hM.lt (j := 0) (by decide)) hM.2.1 (show ax_R G m 5 = some (m + 4) from (hM.2.2 3 _ rfl).1) (dk ddX11_heaps 23 rfl) ?_
        refine x_bipush C (v := nI 6) (dk ddX11_heaps 24 rfl) (by decide) ?_
        refine x_aload_n C (dk ddX11_heaps 25 rfl) rfl ?_
        refine x_geti C flX11_133 rfl (hM.lt (j := 0) (by decide)) hM.2.1 (dk ddX11_heaps 26 rfl) ?_
        rw [show (I m 6) = nI h from hh]
        refine x_imul_n C (dk ddX11_heaps 27 rfl) ?_
        refine x_iload_n C (dk ddX11_heaps 28 rfl) rfl ?_
        refine x_iadd_n C (dk ddX11_heaps 29 rfl) ?_
        refine x_iload C (dk ddX11_heaps 30 rfl) rfl ?_
        refine x_iadd_n C (dk ddX11_heaps 31 rfl) ?_
        refine x_aload_n C (dk ddX11_heaps 32 rfl) rfl ?_
        refine x_iload_n C (dk ddX11_heaps 33 rfl) rfl ?_
        refine x_iload C (dk ddX11_heaps 34 rfl) rfl ?_
        refine x_iadd_n C (dk ddX11_heaps 35 rfl) ?_
        refine x_lald_n C hb.1 hb.2.1 hb.2.2 (by omega) hN (dk ddX11_heaps 36 rfl) ?_
        refine x_last_n C (hM.lt (j := 4) (by decide)) (hM.2.2 3 _ rfl).2.1 (show ax_N G (m + 4) = 96 from (hM.2.2 3 _ rfl).2.2) (by omega) (by decide) (dk ddX11_heaps 37 rfl) ?_
        refine x_iinc C (v := nI (k + 1)) (lv' := [(5, .int (nI (k + 1))), (0, .ref m), (1, .ref b), (2, .int (nI x)), (3, .int (nI sh)), (4, .int (nI wd))]) (dk ddX11_heaps 38 rfl) rfl (nI_add k 1) (by decide) rfl ?_
        refine x_goto C (tgt := 35) (dk ddX11_heaps 39 rfl) (by decide) ?_
        rw [show (ax_u (ax_cp (ax_h0 (m + 4) h 6 L) b (m + 4) x (6 * h + sh) k) (m + 4) (6 * h + sh + k) ((ax_cp (ax_h0 (m + 4) h 6 L) b (m + 4) x (6 * h + sh) k) b (x + k))) = ax_cp (ax_h0 (m + 4) h 6 L) b (m + 4) x (6 * h + sh) (k + 1) from ax_cp_s (by omega) (by omega) (Or.inl hba)]
        refine x_sub [0, 1, 2, 3, 4, 5] (lv' := [(5, .int (nI (k + 1))), (0, .ref m), (1, .ref b), (2, .int (nI x)), (3, .int (nI sh)), (4, .int (nI wd))]) rfl ?_
        exact ih_ (k + 1) (by omega)
  have hl1 : ∀ (n_ k : Nat), k + n_ = 6 → ax_XM p_ l e_ s_ m_ args_ below_ meth_ c_ 6 D T o d 0 0 G (fun v G' I' L' => v = none ∧ G = G' ∧ ax_u I m 6 (nI (h + 1)) = I' ∧ ax_hp (m + 4) h b x sh wd L = L') G I (ax_h0 (m + 4) h k L) 3 [(5, .int (nI k)), (0, .ref m), (1, .ref b), (2, .int (nI x)), (3, .int (nI sh)), (4, .int (nI wd))] [] := by
    intro n_
    induction n_ with
    | zero =>
      intro k hk_
      rw [show k = 6 by omega]
      refine x_iload C (dk ddX11_heaps 2 rfl) rfl ?_
      refine x_bipush C (v := nI 6) (dk ddX11_heaps 3 rfl) (by decide) ?_
      refine x_icmp_ge_n C (tgt := 32) (dk ddX11_heaps 4 rfl) (by decide) (by decide) (by decide) (fun _ => ?_) (fun h_ => absurd h_ (by decide))
      refine x_iconst C (v := nI 0) (dk ddX11_heaps 17 rfl) (by decide) ?_
      refine x_istore C (lv' := [(5, .int (nI 0)), (0, .ref m), (1, .ref b), (2, .int (nI x)), (3, .int (nI sh)), (4, .int (nI wd))]) (dk ddX11_heaps 18 rfl) (by decide) rfl ?_
      have h_ := hl2 wd 0 (by omega)
      rw [ax_cp_0] at h_
      refine x_sub [0, 1, 2, 3, 4, 5] (lv' := [(5, .int (nI 0)), (0, .ref m), (1, .ref b), (2, .int (nI x)), (3, .int (nI sh)), (4, .int (nI wd))]) rfl ?_
      exact h_
    | succ n_ ih_ =>
      intro k hk_
      refine x_iload C (dk ddX11_heaps 2 rfl) rfl ?_
      refine x_bipush C (v := nI 6) (dk ddX11_heaps 3 rfl) (by decide) ?_
      refine x_icmp_ge_n C (tgt := 32) (dk ddX11_heaps 4 rfl) (by decide) (by omega) (by decide) (fun h7 => ?_) (fun h7 => ?_)
      · exfalso
        omega
      · refine x_aload_n C (dk ddX11_heaps 5 rfl) rfl ?_
        refine x_getr C flX11_19 rfl (hM.lt (j := 0) (by decide)) hM.2.1 (show ax_R G m 5 = some (m + 4) from (hM.2.2 3 _ rfl).1) (dk ddX11_heaps 6 rfl) ?_
        refine x_bipush C (v := nI 6) (dk ddX11_heaps 7 rfl) (by decide) ?_
        refine x_aload_n C (dk ddX11_heaps 8 rfl) rfl ?_
        refine x_geti C flX11_133 rfl (hM.lt (j := 0) (by decide)) hM.2.1 (dk ddX11_heaps 9 rfl) ?_
        rw [show (I m 6) = nI h from hh]
        refine x_imul_n C (dk ddX11_heaps 10 rfl) ?_
        refine x_iload C (dk ddX11_heaps 11 rfl) rfl ?_
        refine x_iadd_n C (dk ddX11_heaps 12 rfl) ?_
        refine x_lconst C (v := 0) (dk ddX11_heaps 13 rfl) (by decide) ?_
        refine x_last_n C (hM.lt (j := 4) (by decide)) (hM.2.2 3 _ rfl).2.1 (show ax_N G (m + 4) = 96 from (hM.2.2 3 _ rfl).2.2) (by omega) (by decide) (dk ddX11_heaps 14 rfl) ?_
        refine x_iinc C (v := nI (k + 1)) (lv' := [(5, .int (nI (k + 1))), (0, .ref m), (1, .ref b), (2, .int (nI x)), (3, .int (nI sh)), (4, .int (nI wd))]) (dk ddX11_heaps 15 rfl) rfl (nI_add k 1) (by decide) rfl ?_
        refine x_goto C (tgt := 3) (dk ddX11_heaps 16 rfl) (by decide) ?_
        refine x_sub [0, 1, 2, 3, 4, 5] (lv' := [(5, .int (nI (k + 1))), (0, .ref m), (1, .ref b), (2, .int (nI x)), (3, .int (nI sh)), (4, .int (nI wd))]) rfl ?_
        exact ih_ (k + 1) (by omega)
  refine x_iconst C (v := nI 0) (dk ddX11_heaps 0 rfl) (by decide) ?_
  refine x_istore C (lv' := [(5, .int (nI 0)), (0, .ref m), (1, .ref b), (2, .int (nI x)), (3, .int (nI sh)), (4, .int (nI wd))]) (dk ddX11_heaps 1 rfl) (by decide) rfl ?_
  exact hl1 6 0 (by omega)
/-- a place, or none, as the machine tells it -/
def ax_oi : Option Nat → Int32
  | none => -1
  | some q => nI q
theorem ax_nne {q : Nat} (h : q < 2 ^ 31) : ¬ nI q = -1 := fun e => by
  have h2 := congrArg Int32.toInt e
  rw [nI_toInt h, show (-1 : Int32).toInt = -1 from by decide] at h2
  omega
def ax_lb (H : Nat → Int64) (p r : Nat) : Option Nat → Option Nat
  | none => if ax_abs (H (6 * r + p)) = 0 then none else some r
  | some q => if ax_abs (H (6 * r + p)) = 0 then some q else if ax_abs (H (6 * r + p)) < ax_abs (H (6 * q + p)) then some r else some q
/-- the row with the least number that is not 0 at place p, of the first so many from f on -/
def ax_lst (H : Nat → Int64) (p f : Nat) : Nat → Option Nat
  | 0 => none
  | n + 1 => ax_lb H p (f + n) (ax_lst H p f n)
theorem ax_lb_some {H : Nat → Int64} {p r q : Nat} {b : Option Nat} (h : ax_lb H p r b = some q) : (q = r ∧ ¬ ax_abs (H (6 * r + p)) = 0) ∨ b = some q := by
  cases b with
  | none =>
    by_cases hz : ax_abs (H (6 * r + p)) = 0
    · rw [show ax_lb H p r none = none from if_pos hz] at h; cases h
    · rw [show ax_lb H p r none = some r from if_neg hz] at h; cases h; exact Or.inl ⟨rfl, hz⟩
  | some q' =>
    by_cases hz : ax_abs (H (6 * r + p)) = 0
    · rw [show ax_lb H p r (some q') = some q' from if_pos hz] at h; exact Or.inr h
    · by_cases hl : ax_abs (H (6 * r + p)) < ax_abs (H (6 * q' + p))
      · rw [show ax_lb H p r (some q') = some r from (if_neg hz).trans (if_pos hl)] at h; cases h; exact Or.inl ⟨rfl, hz⟩
      · rw [show ax_lb H p r (some q') = some q' from (if_neg hz).trans (if_neg hl)] at h; exact Or.inr h
theorem ax_lst_lt {H : Nat → Int64} {p f : Nat} : ∀ {n q : Nat}, ax_lst H p f n = some q → f ≤ q ∧ q < f + n ∧ ¬ ax_abs (H (6 * q + p)) = 0
  | 0, q, h => by cases h
  | n + 1, q, h => by
    rcases ax_lb_some (show ax_lb H p (f + n) (ax_lst H p f n) = some q from h) with ⟨rfl, hz⟩ | hb
    · exact ⟨by omega, by omega, hz⟩
    · have ih := ax_lst_lt hb
      exact ⟨ih.1, by omega, ih.2.2⟩
set_option maxRecDepth 20000 in
/-- leastAt(first, place) -/
theorem k_X11_leastAt (l : Launch) (D : va_G) (T : Nat → ClassId) (o d : Nat) (G : ax_G) (I : ax_I) (L : ax_L) (m f p h : Nat) (hM : ax_Mod G m) (hh : I m 6 = nI h) (hh2 : h ≤ 16) (hf : f ≤ h) (hp : p < 6) (hd : 1 ≤ d) : ax_Con l D T o yX11_leastAt cX11_leastAt 7 (some .int) d 0 0 [.ref m, .int (nI f), .int (nI p)] G I L (ax_pure G I L (.int (ax_oi (ax_lst (L (m + 4)) p f (h - f))))) := by
  refine ax_enter (by decide +kernel) (Nat.le_of_ble_eq_true rfl) ?_
  intro p_ e_ s_ m_ args_ below_ meth_ c_ C _
  refine x_lvs (lv' := [(0, .ref m), (1, .int (nI f)), (2, .int (nI p))]) rfl ?_
  have hloop : ∀ (n_ k : Nat), k + n_ = h - f → ax_XM p_ l e_ s_ m_ args_ below_ meth_ c_ 7 D T o d 0 0 G (ax_pure G I L (.int (ax_oi (ax_lst (L (m + 4)) p f (h - f))))) G I L 5 [(3, .int (ax_oi (ax_lst (L (m + 4)) p f k))), (4, .int (nI (f + k))), (0, .ref m), (1, .int (nI f)), (2, .int (nI p))] [] := by
    intro n_
    induction n_ with
    | zero =>
      intro k hk_
      rw [show k = h - f by omega]
      refine x_iload C (dk ddX11_leastAt 4 rfl) rfl ?_
      refine x_aload_n C (dk ddX11_leastAt 5 rfl) rfl ?_
      refine x_geti C flX11_133 rfl (hM.lt (j := 0) (by decide)) hM.2.1 (dk ddX11_leastAt 6 rfl) ?_
      rw [show (I m 6) = nI h from hh]
      refine x_icmp_ge_n C (tgt := 72) (dk ddX11_leastAt 7 rfl) (by decide) (by omega) (by omega) (fun h11 => ?_) (fun h11 => ?_)
      · refine x_iload_n C (dk ddX11_leastAt 41 rfl) rfl ?_
        exact x_iret C rfl (ax_pure_i rfl) rfl rfl (dk ddX11_leastAt 42 rfl)
      · exfalso
        omega
    | succ n_ ih_ =>
      intro k hk_
      rcases hb : ax_lst (L (m + 4)) p f k with _ | q
      · refine x_lvs (lv' := [(3, .int (-1)), (4, .int (nI (f + k))), (0, .ref m), (1, .int (nI f)), (2, .int (nI p))]) rfl ?_
        refine x_iload C (dk ddX11_leastAt 4 rfl) rfl ?_
        refine x_aload_n C (dk ddX11_leastAt 5 rfl) rfl ?_
        refine x_geti C flX11_133 rfl (hM.lt (j := 0) (by decide)) hM.2.1 (dk ddX11_leastAt 6 rfl) ?_
        rw [show (I m 6) = nI h from hh]
        refine x_icmp_ge_n C (tgt := 72) (dk ddX11_leastAt 7 rfl) (by decide) (by omega) (by omega) (fun h11 => ?_) (fun h11 => ?_)
        · exfalso
          omega
        · refine x_aload_n C (dk ddX11_leastAt 8 rfl) rfl ?_
          refine x_getr C flX11_19 rfl (hM.lt (j := 0) (by decide)) hM.2.1 (show ax_R G m 5 = some (m + 4) from (hM.2.2 3 _ rfl).1) (dk ddX11_leastAt 9 rfl) ?_
          refine x_bipush C (v := nI 6) (dk ddX11_leastAt 10 rfl) (by decide) ?_
          refine x_iload C (dk ddX11_leastAt 11 rfl) rfl ?_
          refine x_imul_n C (dk ddX11_leastAt 12 rfl) ?_
          refine x_iload_n C (dk ddX11_leastAt 13 rfl) rfl ?_
          refine x_iadd_n C (dk ddX11_leastAt 14 rfl) ?_
          refine x_lald_n C (hM.lt (j := 4) (by decide)) (hM.2.2 3 _ rfl).2.1 (show ax_N G (m + 4) = 96 from (hM.2.2 3 _ rfl).2.2) (by omega) (by decide) (dk ddX11_leastAt 15 rfl) ?_
          refine x_callS C (As := [.long (L (m + 4) (6 * (f + k) + p))]) (k_X11_sizeOf l D T o (d - 1) G I L (L (m + 4) (6 * (f + k) + p))) mlX11_136 ⟨by show d - 1 + 1 ≤ d; omega, by show 40 * (d - 1 + 1) ≤ 40 * d; omega⟩ ⟨Nat.le_refl _, Nat.le_refl _⟩ rfl (Nat.le_of_ble_eq_true rfl) (dk ddX11_leastAt 16 rfl) ?_
          rintro v_ G_ I_ L_ ⟨rfl, rfl, rfl, rfl⟩
          refine x_lstore C (lv' := [(5, .long (ax_abs (L (m + 4) (6 * (f + k) + p)))), (3, .int (-1)), (4, .int (nI (f + k))), (0, .ref m), (1, .int (nI f)), (2, .int (nI p))]) (dk ddX11_leastAt 17 rfl) (by decide) rfl ?_
          refine x_lload C (dk ddX11_leastAt 18 rfl) rfl ?_
          refine x_lconst C (v := 0) (dk ddX11_leastAt 19 rfl) (by decide) ?_
          refine x_lc_eq C (tgt := 66) (dk ddX11_leastAt 20 rfl) (dk ddX11_leastAt 21 rfl) (by decide) (fun h34 => ?_) (fun h34 => ?_)
          · refine x_iinc C (v := nI (f + k + 1)) (lv' := [(4, .int (nI (f + k + 1))), (5, .long (ax_abs (L (m + 4) (6 * (f + k) + p)))), (3, .int (-1)), (0, .ref m), (1, .int (nI f)), (2, .int (nI p))]) (dk ddX11_leastAt 39 rfl) rfl (nI_add (f + k) 1) (by decide) rfl ?_
            refine x_goto C (tgt := 5) (dk ddX11_leastAt 40 rfl) (by decide) ?_
            have e_ : ax_lst (L (m + 4)) p f (k + 1) = none := by
              show ax_lb _ _ _ (ax_lst (L (m + 4)) p f k) = _
              rw [hb]
              first | exact if_pos h34 | exact if_neg h34 | exact (if_neg h34).trans (if_pos h59c) | exact (if_neg h34).trans (if_neg (Int64.not_lt.mpr h59))
            refine x_sub [2, 0, 3, 4, 5] (lv' := [(3, .int (-1)), (4, .int (nI (f + (k + 1)))), (0, .ref m), (1, .int (nI f)), (2, .int (nI p))]) rfl ?_
            have h_ := ih_ (k + 1) (by omega)
            rw [e_] at h_
            exact h_
          · refine x_iload_n C (dk ddX11_leastAt 22 rfl) rfl ?_
            refine x_iconst C (v := (-1)) (dk ddX11_leastAt 23 rfl) (by decide) ?_
            refine x_icmp_eq C (tgt := 63) (dk ddX11_leastAt 24 rfl) (by decide) (fun _ => ?_) (fun h_ => absurd h_ (by decide))
            refine x_iload C (dk ddX11_leastAt 37 rfl) rfl ?_
            refine x_istore_n C (lv' := [(3, .int (nI (f + k))), (5, .long (ax_abs (L (m + 4) (6 * (f + k) + p)))), (4, .int (nI (f + k))), (0, .ref m), (1, .int (nI f)), (2, .int (nI p))]) (dk ddX11_leastAt 38 rfl) (by decide) rfl ?_
            refine x_iinc C (v := nI (f + k + 1)) (lv' := [(4, .int (nI (f + k + 1))), (3, .int (nI (f + k))), (5, .long (ax_abs (L (m + 4) (6 * (f + k) + p)))), (0, .ref m), (1, .int (nI f)), (2, .int (nI p))]) (dk ddX11_leastAt 39 rfl) rfl (nI_add (f + k) 1) (by decide) rfl ?_
            refine x_goto C (tgt := 5) (dk ddX11_leastAt 40 rfl) (by decide) ?_
            have e_ : ax_lst (L (m + 4)) p f (k + 1) = some (f + k) := by
              show ax_lb _ _ _ (ax_lst (L (m + 4)) p f k) = _
              rw [hb]
              first | exact if_pos h34 | exact if_neg h34 | exact (if_neg h34).trans (if_pos h59c) | exact (if_neg h34).trans (if_neg (Int64.not_lt.mpr h59))
            refine x_sub [1, 0, 3, 4, 5] (lv' := [(3, .int (nI (f + k))), (4, .int (nI (f + (k + 1)))), (0, .ref m), (1, .int (nI f)), (2, .int (nI p))]) rfl ?_
            have h_ := ih_ (k + 1) (by omega)
            rw [e_] at h_
            exact h_
      · obtain ⟨q1_, q2_, q3_⟩ := ax_lst_lt hb
        refine x_lvs (lv' := [(3, .int (nI q)), (4, .int (nI (f + k))), (0, .ref m), (1, .int (nI f)), (2, .int (nI p))]) rfl ?_
        refine x_iload C (dk ddX11_leastAt 4 rfl) rfl ?_
        refine x_aload_n C (dk ddX11_leastAt 5 rfl) rfl ?_
        refine x_geti C flX11_133 rfl (hM.lt (j := 0) (by decide)) hM.2.1 (dk ddX11_leastAt 6 rfl) ?_
        rw [show (I m 6) = nI h from hh]
        refine x_icmp_ge_n C (tgt := 72) (dk ddX11_leastAt 7 rfl) (by decide) (by omega) (by omega) (fun h11 => ?_) (fun h11 => ?_)
        · exfalso
          omega
        · refine x_aload_n C (dk ddX11_leastAt 8 rfl) rfl ?_
          refine x_getr C flX11_19 rfl (hM.lt (j := 0) (by decide)) hM.2.1 (show ax_R G m 5 = some (m + 4) from (hM.2.2 3 _ rfl).1) (dk ddX11_leastAt 9 rfl) ?_
          refine x_bipush C (v := nI 6) (dk ddX11_leastAt 10 rfl) (by decide) ?_
          refine x_iload C (dk ddX11_leastAt 11 rfl) rfl ?_
          refine x_imul_n C (dk ddX11_leastAt 12 rfl) ?_
          refine x_iload_n C (dk ddX11_leastAt 13 rfl) rfl ?_
          refine x_iadd_n C (dk ddX11_leastAt 14 rfl) ?_
          refine x_lald_n C (hM.lt (j := 4) (by decide)) (hM.2.2 3 _ rfl).2.1 (show ax_N G (m + 4) = 96 from (hM.2.2 3 _ rfl).2.2) (by omega) (by decide) (dk ddX11_leastAt 15 rfl) ?_
          refine x_callS C (As := [.long (L (m + 4) (6 * (f + k) + p))]) (k_X11_sizeOf l D T o (d - 1) G I L (L (m + 4) (6 * (f + k) + p))) mlX11_136 ⟨by show d - 1 + 1 ≤ d; omega, by show 40 * (d - 1 + 1) ≤ 40 * d; omega⟩ ⟨Nat.le_refl _, Nat.le_refl _⟩ rfl (Nat.le_of_ble_eq_true rfl) (dk ddX11_leastAt 16 rfl) ?_
          rintro v_ G_ I_ L_ ⟨rfl, rfl, rfl, rfl⟩
          refine x_lstore C (lv' := [(5, .long (ax_abs (L (m + 4) (6 * (f + k) + p)))), (3, .int (nI q)), (4, .int (nI (f + k))), (0, .ref m), (1, .int (nI f)), (2, .int (nI p))]) (dk ddX11_leastAt 17 rfl) (by decide) rfl ?_
          refine x_lload C (dk ddX11_leastAt 18 rfl) rfl ?_
          refine x_lconst C (v := 0) (dk ddX11_leastAt 19 rfl) (by decide) ?_
          refine x_lc_eq C (tgt := 66) (dk ddX11_leastAt 20 rfl) (dk ddX11_leastAt 21 rfl) (by decide) (fun h34 => ?_) (fun h34 => ?_)
          · refine x_iinc C (v := nI (f + k + 1)) (lv' := [(4, .int (nI (f + k + 1))), (5, .long (ax_abs (L (m + 4) (6 * (f + k) + p)))), (3, .int (nI q)), (0, .ref m), (1, .int (nI f)), (2, .int (nI p))]) (dk ddX11_leastAt 39 rfl) rfl (nI_add (f + k) 1) (by decide) rfl ?_
            refine x_goto C (tgt := 5) (dk ddX11_leastAt 40 rfl) (by decide) ?_
            have e_ : ax_lst (L (m + 4)) p f (k + 1) = some q := by
              show ax_lb _ _ _ (ax_lst (L (m + 4)) p f k) = _
              rw [hb]
              first | exact if_pos h34 | exact if_neg h34 | exact (if_neg h34).trans (if_pos h59c) | exact (if_neg h34).trans (if_neg (Int64.not_lt.mpr h59))
            refine x_sub [2, 0, 3, 4, 5] (lv' := [(3, .int (nI q)), (4, .int (nI (f + (k + 1)))), (0, .ref m), (1, .int (nI f)), (2, .int (nI p))]) rfl ?_
            have h_ := ih_ (k + 1) (by omega)
            rw [e_] at h_
            exact h_
          · refine x_iload_n C (dk ddX11_leastAt 22 rfl) rfl ?_
            refine x_iconst C (v := (-1)) (dk ddX11_leastAt 23 rfl) (by decide) ?_
            refine x_icmp_eq C (tgt := 63) (dk ddX11_leastAt 24 rfl) (by decide) (fun h40 => ?_) (fun h40 => ?_)
            · exfalso
              exact ax_nne (by omega) h40
            · refine x_lload C (dk ddX11_leastAt 25 rfl) rfl ?_
              refine x_aload_n C (dk ddX11_leastAt 26 rfl) rfl ?_
              refine x_getr C flX11_19 rfl (hM.lt (j := 0) (by decide)) hM.2.1 (show ax_R G m 5 = some (m + 4) from (hM.2.2 3 _ rfl).1) (dk ddX11_leastAt 27 rfl) ?_
              refine x_bipush C (v := nI 6) (dk ddX11_leastAt 28 rfl) (by decide) ?_
              refine x_iload_n C (dk ddX11_leastAt 29 rfl) rfl ?_
              refine x_imul_n C (dk ddX11_leastAt 30 rfl) ?_
              refine x_iload_n C (dk ddX11_leastAt 31 rfl) rfl ?_
              refine x_iadd_n C (dk ddX11_leastAt 32 rfl) ?_
              refine x_lald_n C (hM.lt (j := 4) (by decide)) (hM.2.2 3 _ rfl).2.1 (show ax_N G (m + 4) = 96 from (hM.2.2 3 _ rfl).2.2) (by omega) (by decide) (dk ddX11_leastAt 33 rfl) ?_
              refine x_callS C (As := [.long (L (m + 4) (6 * q + p))]) (k_X11_sizeOf l D T o (d - 1) G I L (L (m + 4) (6 * q + p))) mlX11_136 ⟨by show d - 1 + 1 ≤ d; omega, by show 40 * (d - 1 + 1) ≤ 40 * d; omega⟩ ⟨Nat.le_refl _, Nat.le_refl _⟩ rfl (Nat.le_of_ble_eq_true rfl) (dk ddX11_leastAt 34 rfl) ?_
              rintro v_ G_ I_ L_ ⟨rfl, rfl, rfl, rfl⟩
              refine x_lc_ge C (tgt := 66) (dk ddX11_leastAt 35 rfl) (dk ddX11_leastAt 36 rfl) (by decide) (fun h59 => ?_) (fun h59 => ?_)
              · have h59c := Int64.not_lt.mpr h59
                refine x_iinc C (v := nI (f + k + 1)) (lv' := [(4, .int (nI (f + k + 1))), (5, .long (ax_abs (L (m + 4) (6 * (f + k) + p)))), (3, .int (nI q)), (0, .ref m), (1, .int (nI f)), (2, .int (nI p))]) (dk ddX11_leastAt 39 rfl) rfl (nI_add (f + k) 1) (by decide) rfl ?_
                refine x_goto C (tgt := 5) (dk ddX11_leastAt 40 rfl) (by decide) ?_
                have e_ : ax_lst (L (m + 4)) p f (k + 1) = some q := by
                  show ax_lb _ _ _ (ax_lst (L (m + 4)) p f k) = _
                  rw [hb]
                  first | exact if_pos h34 | exact if_neg h34 | exact (if_neg h34).trans (if_pos h59c) | exact (if_neg h34).trans (if_neg (Int64.not_lt.mpr h59))
                refine x_sub [2, 0, 3, 4, 5] (lv' := [(3, .int (nI q)), (4, .int (nI (f + (k + 1)))), (0, .ref m), (1, .int (nI f)), (2, .int (nI p))]) rfl ?_
                have h_ := ih_ (k + 1) (by omega)
                rw [e_] at h_
                exact h_
              · have h59c := Int64.not_le.mp h59
                refine x_iload C (dk ddX11_leastAt 37 rfl) rfl ?_
                refine x_istore_n C (lv' := [(3, .int (nI (f + k))), (5, .long (ax_abs (L (m + 4) (6 * (f + k) + p)))), (4, .int (nI (f + k))), (0, .ref m), (1, .int (nI f)), (2, .int (nI p))]) (dk ddX11_leastAt 38 rfl) (by decide) rfl ?_
                refine x_iinc C (v := nI (f + k + 1)) (lv' := [(4, .int (nI (f + k + 1))), (3, .int (nI (f + k))), (5, .long (ax_abs (L (m + 4) (6 * (f + k) + p)))), (0, .ref m), (1, .int (nI f)), (2, .int (nI p))]) (dk ddX11_leastAt 39 rfl) rfl (nI_add (f + k) 1) (by decide) rfl ?_
                refine x_goto C (tgt := 5) (dk ddX11_leastAt 40 rfl) (by decide) ?_
                have e_ : ax_lst (L (m + 4)) p f (k + 1) = some (f + k) := by
                  show ax_lb _ _ _ (ax_lst (L (m + 4)) p f k) = _
                  rw [hb]
                  first | exact if_pos h34 | exact if_neg h34 | exact (if_neg h34).trans (if_pos h59c) | exact (if_neg h34).trans (if_neg (Int64.not_lt.mpr h59))
                refine x_sub [1, 0, 3, 4, 5] (lv' := [(3, .int (nI (f + k))), (4, .int (nI (f + (k + 1)))), (0, .ref m), (1, .int (nI f)), (2, .int (nI p))]) rfl ?_
                have h_ := ih_ (k + 1) (by omega)
                rw [e_] at h_
                exact h_
  refine x_iconst C (v := (-1)) (dk ddX11_leastAt 0 rfl) (by decide) ?_
  refine x_istore_n C (lv' := [(3, .int (-1)), (0, .ref m), (1, .int (nI f)), (2, .int (nI p))]) (dk ddX11_leastAt 1 rfl) (by decide) rfl ?_
  refine x_iload_n C (dk ddX11_leastAt 2 rfl) rfl ?_
  refine x_istore C (lv' := [(4, .int (nI f)), (3, .int (-1)), (0, .ref m), (1, .int (nI f)), (2, .int (nI p))]) (dk ddX11_leastAt 3 rfl) (by decide) rfl ?_
  refine x_sub [1, 0, 2, 3, 4] (lv' := [(3, .int (-1)), (4, .int (nI f)), (0, .ref m), (1, .int (nI f)), (2, .int (nI p))]) rfl ?_
  exact hloop (h - f) 0 (by omega)
/-- a row, from place k on, less t times row k of by, the first so many places -/
def ax_rq (r b k : Nat) (t : Int64) : Nat → ax_L → ax_L
  | 0, L => L
  | n + 1, L => ax_u (ax_rq r b k t n L) r (k + n) (ax_rq r b k t n L r (k + n) - t * ax_rq r b k t n L b (6 * k + (k + n)))
/-- what rests leaves: the first so many places, from f on -/
def ax_rs (r b f : Nat) : Nat → ax_L → ax_L
  | 0, L => L
  | n + 1, L => if ax_rs r b f n L b (7 * (f + n)) = 0 then ax_rs r b f n L else ax_rq r b (f + n) (ax_fdiv (ax_rs r b f n L r (f + n)) (ax_rs r b f n L b (7 * (f + n)))) (6 - (f + n)) (ax_rs r b f n L)
set_option maxRecDepth 20000 in
/-- rests(row, by, first, width) -/
theorem k_X11_rests (l : Launch) (D : va_G) (T : Nat → ClassId) (o d : Nat) (G : ax_G) (I : ax_I) (L : ax_L) (r b f wd nr : Nat) (hr : ax_La G r nr) (hr6 : 6 ≤ nr) (hrl : nr < 2 ^ 31) (hb : ax_La G b 36) (hf : f ≤ wd) (hw : wd ≤ 6) (hd : 1 ≤ d) : ax_Con l D T o yX11_rests cX11_rests 8 none d 0 0 [.ref r, .ref b, .int (nI f), .int (nI wd)] G I L (fun v G' I' L' => v = none ∧ G = G' ∧ I = I' ∧ ax_rs r b f (wd - f) L = L') := by
  refine ax_enter (by decide +kernel) (Nat.le_of_ble_eq_true rfl) ?_
  intro p_ e_ s_ m_ args_ below_ meth_ c_ C _
  refine x_lvs (lv' := [(0, .ref r), (1, .ref b), (2, .int (nI f)), (3, .int (nI wd))]) rfl ?_
  have hloop : ∀ (n_ k : Nat), k + n_ = wd - f → ax_XM p_ l e_ s_ m_ args_ below_ meth_ c_ 8 D T o d 0 0 G (fun v G' I' L' => v = none ∧ G = G' ∧ I = I' ∧ ax_rs r b f (wd - f) L = L') G I (ax_rs r b f k L) 3 [(4, .int (nI (f + k))), (0, .ref r), (1, .ref b), (2, .int (nI f)), (3, .int (nI wd))] [] := by
    intro n_
    induction n_ with
    | zero =>
      intro k hk_
      rw [show k = wd - f by omega]
      refine x_iload C (dk ddX11_rests 2 rfl) rfl ?_
      refine x_iload_n C (dk ddX11_rests 3 rfl) rfl ?_
      refine x_icmp_ge_n C (tgt := 83) (dk ddX11_rests 4 rfl) (by decide) (by omega) (by omega) (fun h6 => ?_) (fun h6 => ?_)
      · exact x_vret C rfl ⟨rfl, rfl, rfl, rfl⟩ rfl rfl (dk ddX11_rests 48 rfl)
      · exfalso
        omega
    | succ n_ ih_ =>
      intro k hk_
      refine x_iload C (dk ddX11_rests 2 rfl) rfl ?_
      refine x_iload_n C (dk ddX11_rests 3 rfl) rfl ?_
      refine x_icmp_ge_n C (tgt := 83) (dk ddX11_rests 4 rfl) (by decide) (by omega) (by omega) (fun h6 => ?_) (fun h6 => ?_)
      · exfalso
        omega
      · refine x_aload_n C (dk ddX11_rests 5 rfl) rfl ?_
        refine x_bipush C (v := nI 7) (dk ddX11_rests 6 rfl) (by decide) ?_
        refine x_iload C (dk ddX11_rests 7 rfl) rfl ?_
        refine x_imul_n C (dk ddX11_rests 8 rfl) ?_
        refine x_lald_n C hb.1 hb.2.1 hb.2.2 (by omega) (by decide) (dk ddX11_rests 9 rfl) ?_
        refine x_lconst C (v := 0) (dk ddX11_rests 10 rfl) (by decide) ?_
        refine x_lc_ne C (tgt := 24) (dk ddX11_rests 11 rfl) (dk ddX11_rests 12 rfl) (by decide) (fun h17 => ?_) (fun h17 => ?_)
        · refine x_aload_n C (dk ddX11_rests 14 rfl) rfl ?_
          refine x_iload C (dk ddX11_rests 15 rfl) rfl ?_
          refine x_lald_n C hr.1 hr.2.1 hr.2.2 (by omega) hrl (dk ddX11_rests 16 rfl) ?_
          refine x_aload_n C (dk ddX11_rests 17 rfl) rfl ?_
          refine x_bipush C (v := nI 7) (dk ddX11_rests 18 rfl) (by decide) ?_
          refine x_iload C (dk ddX11_rests 19 rfl) rfl ?_
          refine x_imul_n C (dk ddX11_rests 20 rfl) ?_
          refine x_lald_n C hb.1 hb.2.1 hb.2.2 (by omega) (by decide) (dk ddX11_rests 21 rfl) ?_
          refine x_callS C (As := [.long ((ax_rs r b f k L) r (f + k)), .long ((ax_rs r b f k L) b (7 * (f + k)))]) (k_X11_floored l D T o (d - 1) G I (ax_rs r b f k L) ((ax_rs r b f k L) r (f + k)) ((ax_rs r b f k L) b (7 * (f + k))) h17) mlX11_158 ⟨by show d - 1 + 1 ≤ d; omega, by show 40 * (d - 1 + 1) ≤ 40 * d; omega⟩ ⟨Nat.le_refl _, Nat.le_refl _⟩ rfl (Nat.le_of_ble_eq_true rfl) (dk ddX11_rests 22 rfl) ?_
          rintro v_ G_ I_ L_ ⟨rfl, rfl, rfl, rfl⟩
          refine x_lstore C (lv' := [(5, .long (ax_fdiv ((ax_rs r b f k L) r (f + k)) ((ax_rs r b f k L) b (7 * (f + k))))), (4, .int (nI (f + k))), (0, .ref r), (1, .ref b), (2, .int (nI f)), (3, .int (nI wd))]) (dk ddX11_rests 23 rfl) (by decide) rfl ?_
          refine x_iload C (dk ddX11_rests 24 rfl) rfl ?_
          refine x_istore C (lv' := [(7, .int (nI (f + k))), (5, .long (ax_fdiv ((ax_rs r b f k L) r (f + k)) ((ax_rs r b f k L) b (7 * (f + k))))), (4, .int (nI (f + k))), (0, .ref r), (1, .ref b), (2, .int (nI f)), (3, .int (nI wd))]) (dk ddX11_rests 25 rfl) (by decide) rfl ?_
          have hin : ∀ (nq_ q : Nat), q + nq_ = 6 - (f + k) → ax_XM p_ l e_ s_ m_ args_ below_ meth_ c_ 8 D T o d 0 0 G (fun v G' I' L' => v = none ∧ G = G' ∧ I = I' ∧ ax_rs r b f (wd - f) L = L') G I (ax_rq r b (f + k) (ax_fdiv ((ax_rs r b f k L) r (f + k)) ((ax_rs r b f k L) b (7 * (f + k)))) q (ax_rs r b f k L)) 44 [(7, .int (nI (f + k + q))), (5, .long (ax_fdiv ((ax_rs r b f k L) r (f + k)) ((ax_rs r b f k L) b (7 * (f + k))))), (4, .int (nI (f + k))), (0, .ref r), (1, .ref b), (2, .int (nI f)), (3, .int (nI wd))] [] := by
            intro nq_
            induction nq_ with
            | zero =>
              intro q hk_
              rw [show q = 6 - (f + k) by omega]
              refine x_iload C (dk ddX11_rests 26 rfl) rfl ?_
              refine x_bipush C (v := nI 6) (dk ddX11_rests 27 rfl) (by decide) ?_
              refine x_icmp_ge_n C (tgt := 77) (dk ddX11_rests 28 rfl) (by decide) (by omega) (by decide) (fun h48 => ?_) (fun h48 => ?_)
              · refine x_iinc C (v := nI (f + k + 1)) (lv' := [(4, .int (nI (f + k + 1))), (7, .int (nI (f + k + (6 - (f + k))))), (5, .long (ax_fdiv ((ax_rs r b f k L) r (f + k)) ((ax_rs r b f k L) b (7 * (f + k))))), (0, .ref r), (1, .ref b), (2, .int (nI f)), (3, .int (nI wd))]) (dk ddX11_rests 46 rfl) rfl (nI_add (f + k) 1) (by decide) rfl ?_
                refine x_goto C (tgt := 3) (dk ddX11_rests 47 rfl) (by decide) ?_
                have e_ : ax_rs r b f (k + 1) L = ax_rq r b (f + k) (ax_fdiv ((ax_rs r b f k L) r (f + k)) ((ax_rs r b f k L) b (7 * (f + k)))) (6 - (f + k)) (ax_rs r b f k L) := by show (if _ then _ else _ : ax_L) = _; rw [if_neg h17]
                refine x_sub [0, 3, 4, 5, 6] (lv' := [(4, .int (nI (f + (k + 1)))), (0, .ref r), (1, .ref b), (2, .int (nI f)), (3, .int (nI wd))]) rfl ?_
                have h_ := ih_ (k + 1) (by omega)
                rw [e_] at h_
                exact h_
              · exfalso
                omega
            | succ nq_ ihq_ =>
              intro q hk_
              refine x_iload C (dk ddX11_rests 26 rfl) rfl ?_
              refine x_bipush C (v := nI 6) (dk ddX11_rests 27 rfl) (by decide) ?_
              refine x_icmp_ge_n C (tgt := 77) (dk ddX11_rests 28 rfl) (by decide) (by omega) (by decide) (fun h48 => ?_) (fun h48 => ?_)
              · exfalso
                omega
              · refine x_aload_n C (dk ddX11_rests 29 rfl) rfl ?_
                refine x_iload C (dk ddX11_rests 30 rfl) rfl ?_
                refine x_dup2 C (dk ddX11_rests 31 rfl) rfl rfl ?_
                refine x_lald_n C hr.1 hr.2.1 hr.2.2 (by omega) hrl (dk ddX11_rests 32 rfl) ?_
                refine x_lload C (dk ddX11_rests 33 rfl) rfl ?_
                refine x_aload_n C (dk ddX11_rests 34 rfl) rfl ?_
                refine x_bipush C (v := nI 6) (dk ddX11_rests 35 rfl) (by decide) ?_
                refine x_iload C (dk ddX11_rests 36 rfl) rfl ?_
                refine x_imul_n C (dk ddX11_rests 37 rfl) ?_
                refine x_iload C (dk ddX11_rests 38 rfl) rfl ?_
                refine x_iadd_n C (dk ddX11_rests 39 rfl) ?_
                refine x_lald_n C hb.1 hb.2.1 hb.2.2 (by omega) (by decide) (dk ddX11_rests 40 rfl) ?_
                refine x_lmul C (dk ddX11_rests 41 rfl) ?_
                refine x_lsub C (dk ddX11_rests 42 rfl) ?_
                refine x_last_n C hr.1 hr.2.1 hr.2.2 (by omega) hrl (dk ddX11_rests 43 rfl) ?_
                refine x_iinc C (v := nI (f + k + q + 1)) (lv' := [(7, .int (nI (f + k + q + 1))), (5, .long (ax_fdiv ((ax_rs r b f k L) r (f + k)) ((ax_rs r b f k L) b (7 * (f + k))))), (4, .int (nI (f + k))), (0, .ref r), (1, .ref b), (2, .int (nI f)), (3, .int (nI wd))]) (dk ddX11_rests 44 rfl) rfl (nI_add (f + k + q) 1) (by decide) rfl ?_
                refine x_goto C (tgt := 44) (dk ddX11_rests 45 rfl) (by decide) ?_
                refine x_sub [0, 1, 2, 3, 4, 5, 6] (lv' := [(7, .int (nI (f + k + (q + 1)))), (5, .long (ax_fdiv ((ax_rs r b f k L) r (f + k)) ((ax_rs r b f k L) b (7 * (f + k))))), (4, .int (nI (f + k))), (0, .ref r), (1, .ref b), (2, .int (nI f)), (3, .int (nI wd))]) rfl ?_
                exact ihq_ (q + 1) (by omega)
          refine x_sub [0, 1, 2, 3, 4, 5, 6] (lv' := [(7, .int (nI (f + k))), (5, .long (ax_fdiv ((ax_rs r b f k L) r (f + k)) ((ax_rs r b f k L) b (7 * (f + k))))), (4, .int (nI (f + k))), (0, .ref r), (1, .ref b), (2, .int (nI f)), (3, .int (nI wd))]) rfl ?_
          exact hin (6 - (f + k)) 0 (by omega)
        · refine x_goto C (tgt := 77) (dk ddX11_rests 13 rfl) (by decide) ?_
          refine x_iinc C (v := nI (f + k + 1)) (lv' := [(4, .int (nI (f + k + 1))), (0, .ref r), (1, .ref b), (2, .int (nI f)), (3, .int (nI wd))]) (dk ddX11_rests 46 rfl) rfl (nI_add (f + k) 1) (by decide) rfl ?_
          refine x_goto C (tgt := 3) (dk ddX11_rests 47 rfl) (by decide) ?_
          have e_ : ax_rs r b f (k + 1) L = ax_rs r b f k L := by show (if _ then _ else _ : ax_L) = _; rw [if_pos h17]
          refine x_sub [0, 1, 2, 3, 4] (lv' := [(4, .int (nI (f + (k + 1)))), (0, .ref r), (1, .ref b), (2, .int (nI f)), (3, .int (nI wd))]) rfl ?_
          have h_ := ih_ (k + 1) (by omega)
          rw [e_] at h_
          exact h_
  refine x_iload_n C (dk ddX11_rests 0 rfl) rfl ?_
  refine x_istore C (lv' := [(4, .int (nI f)), (0, .ref r), (1, .ref b), (2, .int (nI f)), (3, .int (nI wd))]) (dk ddX11_rests 1 rfl) (by decide) rfl ?_
  refine x_sub [0, 1, 2, 3, 4] (lv' := [(4, .int (nI f)), (0, .ref r), (1, .ref b), (2, .int (nI f)), (3, .int (nI wd))]) rfl ?_
  exact hloop (wd - f) 0 (by omega)

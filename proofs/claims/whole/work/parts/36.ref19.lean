/-! ===== the reference: pairsOf, ofTwo, span ===== -/
/-- ring k of two groups together -/
def ax_pv2 (p x y k : Nat) (F R : Nat → Int64) : Int64 := if p < 4 then an_pair p (F (k / y)) (R (k % y)) else if k < x then F k else R (k - x)
def ax_pp (m p x y : Nat) : Nat → ax_L → ax_L
  | 0, L => L
  | n + 1, L => ax_u (ax_pp m p x y n L) (m + 15) n (ax_pv2 p x y n (ax_pp m p x y n L (m + 14)) (ax_pp m p x y n L (m + 13)))
theorem ax_pp_ne {m p x y q : Nat} {L : ax_L} (h : q ≠ m + 15) : ∀ n, ax_pp m p x y n L q = L q
  | 0 => rfl
  | n + 1 => by show ax_u _ _ _ _ q = _; rw [ax_u_ne h]; exact ax_pp_ne h n
/-- how many pairs -/
def ax_pm (p x y : Nat) : Nat := if p = 4 then x + y else x * y
/-- what pairsOf makes -/
def ax_P1 (m p x y : Nat) (L : ax_L) : Option ax_L := ax_o3 (m + 13) (ax_pm p x y) (ax_pm p x y) (ax_c1 (m + 15) (m + 13) (ax_pm p x y) (ax_pp m p x y (ax_pm p x y) L))
set_option maxRecDepth 20000 in
/-- pairsOf(what) -/
theorem k_X11_pairsOf (l : Launch) (D : va_G) (T : Nat → ClassId) (o d : Nat) (G : ax_G) (I : ax_I) (L : ax_L) (m p x y : Nat) (Y : ax_L) (hM : ax_Mod G m) (hp : p ≤ 4) (hx : I m 20 = nI x) (hx3 : x ≤ 3) (hy : I m 18 = nI y) (hy3 : y ≤ 3) (hF : ∀ k, k < x → -9223372036854775808 < (L (m + 14) k).toInt) (hR : ∀ k, k < y → -9223372036854775808 < (L (m + 13) k).toInt) (hY : ax_P1 m p x y L = some Y) (hd : 2 ≤ d) : ax_Con l D T o yX11_pairsOf cX11_pairsOf 4 none d 0 0 [.ref m, .int (nI p)] G I L (fun v G' I' L' => v = none ∧ G = G' ∧ ax_u I m 18 (nI (ax_pm p x y)) = I' ∧ Y = L') := by
  refine ax_enter (by decide +kernel) (Nat.le_of_ble_eq_true rfl) ?_
  intro p_ e_ s_ m_ args_ below_ meth_ c_ C _
  refine x_lvs (lv' := [(0, .ref m), (1, .int (nI p))]) rfl ?_
  have hxy : x * y ≤ 9 := Nat.mul_le_mul hx3 hy3
  have hpm : ax_pm p x y ≤ 9 := by unfold ax_pm; split <;> omega
  have hl2 : ∀ (n_ k : Nat), k + n_ = ax_pm p x y → ax_XM p_ l e_ s_ m_ args_ below_ meth_ c_ 4 D T o d 0 0 G (fun v G' I' L' => v = none ∧ G = G' ∧ ax_u I m 18 (nI (ax_pm p x y)) = I' ∧ Y = L') G (ax_u I m 18 (nI (ax_pm p x y))) (ax_c1 (m + 15) (m + 13) k (ax_pp m p x y (ax_pm p x y) L)) 115 [(3, .int (nI k)), (2, .int (nI (ax_pm p x y))), (0, .ref m), (1, .int (nI p))] [] := by
    intro n_
    induction n_ with
    | zero =>
      intro k hk_
      rw [show k = ax_pm p x y by omega]
      refine x_iload_n C (dk ddX11_pairsOf 67 rfl) rfl ?_
      refine x_iload_n C (dk ddX11_pairsOf 68 rfl) rfl ?_
      refine x_icmp_ge_n C (tgt := 138) (dk ddX11_pairsOf 69 rfl) (by decide) (by omega) (by omega) (fun h117 => ?_) (fun h117 => ?_)
      · refine x_aload_n C (dk ddX11_pairsOf 80 rfl) rfl ?_
        refine x_callV C (ci := 11) (As := []) (k_X11_ordersRings l D T o (d - 1) G (ax_u I m 18 (nI (ax_pm p x y))) (ax_c1 (m + 15) (m + 13) (ax_pm p x y) (ax_pp m p x y (ax_pm p x y) L)) m (ax_pm p x y) Y hM (ax_u_at _ _ _ _) (by omega) hY (by omega)) mlX11_245 rfl rfl (hM.lt (j := 0) (by decide)) hM.2.1 ⟨by show d - 1 + 1 ≤ d; omega, by show 40 * (d - 1 + 1) ≤ 40 * d; omega⟩ ⟨Nat.le_refl _, Nat.le_refl _⟩ rfl (Nat.le_of_ble_eq_true rfl) (dk ddX11_pairsOf 81 rfl) ?_
        rintro v_ G_ I_ L_ ⟨rfl, rfl, rfl, rfl⟩
        exact x_vret C rfl ⟨rfl, rfl, rfl, rfl⟩ rfl rfl (dk ddX11_pairsOf 82 rfl)
      · exfalso
        omega
    | succ n_ ih_ =>
      intro k hk_
      refine x_iload_n C (dk ddX11_pairsOf 67 rfl) rfl ?_
      refine x_iload_n C (dk ddX11_pairsOf 68 rfl) rfl ?_
      refine x_icmp_ge_n C (tgt := 138) (dk ddX11_pairsOf 69 rfl) (by decide) (by omega) (by omega) (fun h117 => ?_) (fun h117 => ?_)
      · exfalso
        omega
      · refine x_aload_n C (dk ddX11_pairsOf 70 rfl) rfl ?_
        refine x_getr C flX11_47 rfl (hM.lt (j := 0) (by decide)) hM.2.1 (show ax_R G m 15 = some (m + 13) from (hM.2.2 12 _ rfl).1) (dk ddX11_pairsOf 71 rfl) ?_
        refine x_iload_n C (dk ddX11_pairsOf 72 rfl) rfl ?_
        refine x_aload_n C (dk ddX11_pairsOf 73 rfl) rfl ?_
        refine x_getr C flX11_53 rfl (hM.lt (j := 0) (by decide)) hM.2.1 (show ax_R G m 21 = some (m + 15) from (hM.2.2 14 _ rfl).1) (dk ddX11_pairsOf 74 rfl) ?_
        refine x_iload_n C (dk ddX11_pairsOf 75 rfl) rfl ?_
        refine x_lald_n C (hM.lt (j := 15) (by decide)) (hM.2.2 14 _ rfl).2.1 (show ax_N G (m + 15) = 9 from (hM.2.2 14 _ rfl).2.2) (by omega) (by decide) (dk ddX11_pairsOf 76 rfl) ?_
        refine x_last_n C (hM.lt (j := 13) (by decide)) (hM.2.2 12 _ rfl).2.1 (show ax_N G (m + 13) = 9 from (hM.2.2 12 _ rfl).2.2) (by omega) (by decide) (dk ddX11_pairsOf 77 rfl) ?_
        refine x_iinc C (v := nI (k + 1)) (lv' := [(3, .int (nI (k + 1))), (2, .int (nI (ax_pm p x y))), (0, .ref m), (1, .int (nI p))]) (dk ddX11_pairsOf 78 rfl) rfl (nI_add k 1) (by decide) rfl ?_
        refine x_goto C (tgt := 115) (dk ddX11_pairsOf 79 rfl) (by decide) ?_
        refine x_sub [0, 1, 2, 3] (lv' := [(3, .int (nI (k + 1))), (2, .int (nI (ax_pm p x y))), (0, .ref m), (1, .int (nI p))]) rfl ?_
        exact ih_ (k + 1) (by omega)
  have hl1 : ∀ (n_ k : Nat), k + n_ = ax_pm p x y → ax_XM p_ l e_ s_ m_ args_ below_ meth_ c_ 4 D T o d 0 0 G (fun v G' I' L' => v = none ∧ G = G' ∧ ax_u I m 18 (nI (ax_pm p x y)) = I' ∧ Y = L') G I (ax_pp m p x y k L) 29 [(3, .int (nI k)), (2, .int (nI (ax_pm p x y))), (0, .ref m), (1, .int (nI p))] [] := by
    intro n_
    induction n_ with
    | zero =>
      intro k hk_
      rw [show k = ax_pm p x y by omega]
      refine x_iload_n C (dk ddX11_pairsOf 17 rfl) rfl ?_
      refine x_iload_n C (dk ddX11_pairsOf 18 rfl) rfl ?_
      refine x_icmp_ge_n C (tgt := 108) (dk ddX11_pairsOf 19 rfl) (by decide) (by omega) (by omega) (fun h31 => ?_) (fun h31 => ?_)
      · refine x_aload_n C (dk ddX11_pairsOf 62 rfl) rfl ?_
        refine x_iload_n C (dk ddX11_pairsOf 63 rfl) rfl ?_
        refine x_puti C flX11_236 fw11 rfl rfl (hM.lt (j := 0) (by decide)) hM.2.1 rfl rfl (dk ddX11_pairsOf 64 rfl) ?_
        refine x_iconst C (v := nI 0) (dk ddX11_pairsOf 65 rfl) (by decide) ?_
        refine x_istore_n C (lv' := [(3, .int (nI 0)), (2, .int (nI (ax_pm p x y))), (0, .ref m), (1, .int (nI p))]) (dk ddX11_pairsOf 66 rfl) (by decide) rfl ?_
        refine x_sub [0, 1, 2, 3] (lv' := [(3, .int (nI 0)), (2, .int (nI (ax_pm p x y))), (0, .ref m), (1, .int (nI p))]) rfl ?_
        exact hl2 (ax_pm p x y) 0 (by omega)
      · exfalso
        omega
    | succ n_ ih_ =>
      intro k hk_
      refine x_iload_n C (dk ddX11_pairsOf 17 rfl) rfl ?_
      refine x_iload_n C (dk ddX11_pairsOf 18 rfl) rfl ?_
      refine x_icmp_ge_n C (tgt := 108) (dk ddX11_pairsOf 19 rfl) (by decide) (by omega) (by omega) (fun h31 => ?_) (fun h31 => ?_)
      · exfalso
        omega
      · refine x_aload_n C (dk ddX11_pairsOf 20 rfl) rfl ?_
        refine x_getr C flX11_53 rfl (hM.lt (j := 0) (by decide)) hM.2.1 (show ax_R G m 21 = some (m + 15) from (hM.2.2 14 _ rfl).1) (dk ddX11_pairsOf 21 rfl) ?_
        refine x_iload_n C (dk ddX11_pairsOf 22 rfl) rfl ?_
        refine x_iload_n C (dk ddX11_pairsOf 23 rfl) rfl ?_
        refine x_iconst C (v := nI 4) (dk ddX11_pairsOf 24 rfl) (by decide) ?_
        refine x_icmp_ge_n C (tgt := 73) (dk ddX11_pairsOf 25 rfl) (by decide) (by omega) (by decide) (fun h41 => ?_) (fun h41 => ?_)
        · have hpm2 : ax_pm p x y = x + y := by unfold ax_pm; rw [if_pos (by omega)]
          refine x_iload_n C (dk ddX11_pairsOf 43 rfl) rfl ?_
          refine x_aload_n C (dk ddX11_pairsOf 44 rfl) rfl ?_
          refine x_geti C flX11_275 rfl (hM.lt (j := 0) (by decide)) hM.2.1 (dk ddX11_pairsOf 45 rfl) ?_
          rw [show (I m 20) = nI x from hx]
          refine x_icmp_ge_n C (tgt := 90) (dk ddX11_pairsOf 46 rfl) (by decide) (by omega) (by omega) (fun h78 => ?_) (fun h78 => ?_)
          · refine x_aload_n C (dk ddX11_pairsOf 52 rfl) rfl ?_
            refine x_getr C flX11_47 rfl (hM.lt (j := 0) (by decide)) hM.2.1 (show ax_R G m 15 = some (m + 13) from (hM.2.2 12 _ rfl).1) (dk ddX11_pairsOf 53 rfl) ?_
            refine x_iload_n C (dk ddX11_pairsOf 54 rfl) rfl ?_
            refine x_aload_n C (dk ddX11_pairsOf 55 rfl) rfl ?_
            refine x_geti C flX11_275 rfl (hM.lt (j := 0) (by decide)) hM.2.1 (dk ddX11_pairsOf 56 rfl) ?_
            rw [show (I m 20) = nI x from hx]
            refine x_isub_n C (dk ddX11_pairsOf 57 rfl) (by omega) ?_
            refine x_lald_n C (hM.lt (j := 13) (by decide)) (hM.2.2 12 _ rfl).2.1 (show ax_N G (m + 13) = 9 from (hM.2.2 12 _ rfl).2.2) (by omega) (by decide) (dk ddX11_pairsOf 58 rfl) ?_
            refine x_last_n C (hM.lt (j := 15) (by decide)) (hM.2.2 14 _ rfl).2.1 (show ax_N G (m + 15) = 9 from (hM.2.2 14 _ rfl).2.2) (by omega) (by decide) (dk ddX11_pairsOf 59 rfl) ?_
            refine x_iinc C (v := nI (k + 1)) (lv' := [(3, .int (nI (k + 1))), (2, .int (nI (ax_pm p x y))), (0, .ref m), (1, .int (nI p))]) (dk ddX11_pairsOf 60 rfl) rfl (nI_add k 1) (by decide) rfl ?_
            refine x_goto C (tgt := 29) (dk ddX11_pairsOf 61 rfl) (by decide) ?_
            have e_ : ax_pp m p x y (k + 1) L = ax_u (ax_pp m p x y k L) (m + 15) k ((ax_pp m p x y k L) (m + 13) (k - x)) := by show ax_u _ _ _ (ax_pv2 _ _ _ _ _ _) = _; unfold ax_pv2; rw [if_neg (by omega), if_neg (by omega)]
            refine x_sub [0, 1, 2, 3] (lv' := [(3, .int (nI (k + 1))), (2, .int (nI (ax_pm p x y))), (0, .ref m), (1, .int (nI p))]) rfl ?_
            have h_ := ih_ (k + 1) (by omega)
            rw [e_] at h_
            exact h_
          · refine x_aload_n C (dk ddX11_pairsOf 47 rfl) rfl ?_
            refine x_getr C flX11_50 rfl (hM.lt (j := 0) (by decide)) hM.2.1 (show ax_R G m 19 = some (m + 14) from (hM.2.2 13 _ rfl).1) (dk ddX11_pairsOf 48 rfl) ?_
            refine x_iload_n C (dk ddX11_pairsOf 49 rfl) rfl ?_
            refine x_lald_n C (hM.lt (j := 14) (by decide)) (hM.2.2 13 _ rfl).2.1 (show ax_N G (m + 14) = 3 from (hM.2.2 13 _ rfl).2.2) (by omega) (by decide) (dk ddX11_pairsOf 50 rfl) ?_
            refine x_goto C (tgt := 101) (dk ddX11_pairsOf 51 rfl) (by decide) ?_
            refine x_last_n C (hM.lt (j := 15) (by decide)) (hM.2.2 14 _ rfl).2.1 (show ax_N G (m + 15) = 9 from (hM.2.2 14 _ rfl).2.2) (by omega) (by decide) (dk ddX11_pairsOf 59 rfl) ?_
            refine x_iinc C (v := nI (k + 1)) (lv' := [(3, .int (nI (k + 1))), (2, .int (nI (ax_pm p x y))), (0, .ref m), (1, .int (nI p))]) (dk ddX11_pairsOf 60 rfl) rfl (nI_add k 1) (by decide) rfl ?_
            refine x_goto C (tgt := 29) (dk ddX11_pairsOf 61 rfl) (by decide) ?_
            have e_ : ax_pp m p x y (k + 1) L = ax_u (ax_pp m p x y k L) (m + 15) k ((ax_pp m p x y k L) (m + 14) k) := by show ax_u _ _ _ (ax_pv2 _ _ _ _ _ _) = _; unfold ax_pv2; rw [if_neg (by omega), if_pos (by omega)]
            refine x_sub [0, 1, 2, 3] (lv' := [(3, .int (nI (k + 1))), (2, .int (nI (ax_pm p x y))), (0, .ref m), (1, .int (nI p))]) rfl ?_
            have h_ := ih_ (k + 1) (by omega)
            rw [e_] at h_
            exact h_
        · have hpm2 : ax_pm p x y = x * y := by unfold ax_pm; rw [if_neg (by omega)]
          have hy0 : 0 < y := Nat.pos_of_ne_zero (fun z => by subst z; rw [Nat.mul_zero] at hpm2; omega)
          have hdiv : k / y < x := Nat.div_lt_of_lt_mul (by rw [Nat.mul_comm]; omega)
          have hmod : k % y < y := Nat.mod_lt _ hy0
          refine x_iload_n C (dk ddX11_pairsOf 26 rfl) rfl ?_
          refine x_aload_n C (dk ddX11_pairsOf 27 rfl) rfl ?_
          refine x_getr C flX11_50 rfl (hM.lt (j := 0) (by decide)) hM.2.1 (show ax_R G m 19 = some (m + 14) from (hM.2.2 13 _ rfl).1) (dk ddX11_pairsOf 28 rfl) ?_
          refine x_iload_n C (dk ddX11_pairsOf 29 rfl) rfl ?_
          refine x_aload_n C (dk ddX11_pairsOf 30 rfl) rfl ?_
          refine x_geti C flX11_236 rfl (hM.lt (j := 0) (by decide)) hM.2.1 (dk ddX11_pairsOf 31 rfl) ?_
          rw [show (I m 18) = nI y from hy]
          refine x_idiv_n C (dk ddX11_pairsOf 32 rfl) (by omega) (by omega) (by omega) ?_
          refine x_lald_n C (hM.lt (j := 14) (by decide)) (hM.2.2 13 _ rfl).2.1 (show ax_N G (m + 14) = 3 from (hM.2.2 13 _ rfl).2.2) (by omega) (by decide) (dk ddX11_pairsOf 33 rfl) ?_
          refine x_aload_n C (dk ddX11_pairsOf 34 rfl) rfl ?_
          refine x_getr C flX11_47 rfl (hM.lt (j := 0) (by decide)) hM.2.1 (show ax_R G m 15 = some (m + 13) from (hM.2.2 12 _ rfl).1) (dk ddX11_pairsOf 35 rfl) ?_
          refine x_iload_n C (dk ddX11_pairsOf 36 rfl) rfl ?_
          refine x_aload_n C (dk ddX11_pairsOf 37 rfl) rfl ?_
          refine x_geti C flX11_236 rfl (hM.lt (j := 0) (by decide)) hM.2.1 (dk ddX11_pairsOf 38 rfl) ?_
          rw [show (I m 18) = nI y from hy]
          refine x_irem_n C (dk ddX11_pairsOf 39 rfl) (by omega) (by omega) (by omega) ?_
          refine x_lald_n C (hM.lt (j := 13) (by decide)) (hM.2.2 12 _ rfl).2.1 (show ax_N G (m + 13) = 9 from (hM.2.2 12 _ rfl).2.2) (by omega) (by decide) (dk ddX11_pairsOf 40 rfl) ?_
          refine x_callS C (As := [.int (nI p), .long ((ax_pp m p x y k L) (m + 14) (k / y)), .long ((ax_pp m p x y k L) (m + 13) (k % y))]) (k_X11_pair l D T o (d - 1) G I (ax_pp m p x y k L) p ((ax_pp m p x y k L) (m + 14) (k / y)) ((ax_pp m p x y k L) (m + 13) (k % y)) (by omega) (by rw [ax_pp_ne (by omega)]; exact hF _ (by omega)) (by rw [ax_pp_ne (by omega)]; exact hR _ (by omega)) (by omega)) mlX11_281 ⟨by show d - 1 + 1 ≤ d; omega, by show 40 * (d - 1 + 1) ≤ 40 * d; omega⟩ ⟨Nat.le_refl _, Nat.le_refl _⟩ rfl (Nat.le_of_ble_eq_true rfl) (dk ddX11_pairsOf 41 rfl) ?_
          rintro v_ G_ I_ L_ ⟨rfl, rfl, rfl, rfl⟩
          refine x_goto C (tgt := 101) (dk ddX11_pairsOf 42 rfl) (by decide) ?_
          refine x_last_n C (hM.lt (j := 15) (by decide)) (hM.2.2 14 _ rfl).2.1 (show ax_N G (m + 15) = 9 from (hM.2.2 14 _ rfl).2.2) (by omega) (by decide) (dk ddX11_pairsOf 59 rfl) ?_
          refine x_iinc C (v := nI (k + 1)) (lv' := [(3, .int (nI (k + 1))), (2, .int (nI (ax_pm p x y))), (0, .ref m), (1, .int (nI p))]) (dk ddX11_pairsOf 60 rfl) rfl (nI_add k 1) (by decide) rfl ?_
          refine x_goto C (tgt := 29) (dk ddX11_pairsOf 61 rfl) (by decide) ?_
          have e_ : ax_pp m p x y (k + 1) L = ax_u (ax_pp m p x y k L) (m + 15) k (an_pair p ((ax_pp m p x y k L) (m + 14) (k / y)) ((ax_pp m p x y k L) (m + 13) (k % y))) := by show ax_u _ _ _ (ax_pv2 _ _ _ _ _ _) = _; unfold ax_pv2; rw [if_pos (by omega)]
          refine x_sub [0, 1, 2, 3] (lv' := [(3, .int (nI (k + 1))), (2, .int (nI (ax_pm p x y))), (0, .ref m), (1, .int (nI p))]) rfl ?_
          have h_ := ih_ (k + 1) (by omega)
          rw [e_] at h_
          exact h_
  refine x_iload_n C (dk ddX11_pairsOf 0 rfl) rfl ?_
  refine x_iconst C (v := nI 4) (dk ddX11_pairsOf 1 rfl) (by decide) ?_
  refine x_icmp_ne_n C (tgt := 17) (dk ddX11_pairsOf 2 rfl) (by decide) (by omega) (by decide) (fun h2 => ?_) (fun h2 => ?_)
  · refine x_aload_n C (dk ddX11_pairsOf 9 rfl) rfl ?_
    refine x_geti C flX11_275 rfl (hM.lt (j := 0) (by decide)) hM.2.1 (dk ddX11_pairsOf 10 rfl) ?_
    rw [show (I m 20) = nI x from hx]
    refine x_aload_n C (dk ddX11_pairsOf 11 rfl) rfl ?_
    refine x_geti C flX11_236 rfl (hM.lt (j := 0) (by decide)) hM.2.1 (dk ddX11_pairsOf 12 rfl) ?_
    rw [show (I m 18) = nI y from hy]
    refine x_imul_n C (dk ddX11_pairsOf 13 rfl) ?_
    refine x_istore_n C (lv' := [(2, .int (nI (x * y))), (0, .ref m), (1, .int (nI p))]) (dk ddX11_pairsOf 14 rfl) (by decide) rfl ?_
    refine x_iconst C (v := nI 0) (dk ddX11_pairsOf 15 rfl) (by decide) ?_
    refine x_istore_n C (lv' := [(3, .int (nI 0)), (2, .int (nI (x * y))), (0, .ref m), (1, .int (nI p))]) (dk ddX11_pairsOf 16 rfl) (by decide) rfl ?_
    rw [show x * y = ax_pm p x y from by unfold ax_pm; rw [if_neg (by omega)]]
    refine x_sub [0, 1, 2, 3] (lv' := [(3, .int (nI 0)), (2, .int (nI (ax_pm p x y))), (0, .ref m), (1, .int (nI p))]) rfl ?_
    exact hl1 (ax_pm p x y) 0 (by omega)
  · refine x_aload_n C (dk ddX11_pairsOf 3 rfl) rfl ?_
    refine x_geti C flX11_275 rfl (hM.lt (j := 0) (by decide)) hM.2.1 (dk ddX11_pairsOf 4 rfl) ?_
    rw [show (I m 20) = nI x from hx]
    refine x_aload_n C (dk ddX11_pairsOf 5 rfl) rfl ?_
    refine x_geti C flX11_236 rfl (hM.lt (j := 0) (by decide)) hM.2.1 (dk ddX11_pairsOf 6 rfl) ?_
    rw [show (I m 18) = nI y from hy]
    refine x_iadd_n C (dk ddX11_pairsOf 7 rfl) ?_
    refine x_goto C (tgt := 26) (dk ddX11_pairsOf 8 rfl) (by decide) ?_
    refine x_istore_n C (lv' := [(2, .int (nI (x + y))), (0, .ref m), (1, .int (nI p))]) (dk ddX11_pairsOf 14 rfl) (by decide) rfl ?_
    refine x_iconst C (v := nI 0) (dk ddX11_pairsOf 15 rfl) (by decide) ?_
    refine x_istore_n C (lv' := [(3, .int (nI 0)), (2, .int (nI (x + y))), (0, .ref m), (1, .int (nI p))]) (dk ddX11_pairsOf 16 rfl) (by decide) rfl ?_
    rw [show x + y = ax_pm p x y from by unfold ax_pm; rw [if_pos (by omega)]]
    refine x_sub [0, 1, 2, 3] (lv' := [(3, .int (nI 0)), (2, .int (nI (ax_pm p x y))), (0, .ref m), (1, .int (nI p))]) rfl ?_
    exact hl1 (ax_pm p x y) 0 (by omega)
set_option maxRecDepth 20000 in
/-- ofTwo, refused -/
theorem k_X11_ofTwo_bad (l : Launch) (D : va_G) (T : Nat → ClassId) (o d : Nat) (G : ax_G) (I : ax_I) (L : ax_L) (m : Nat) (p g h k : Int32) (hM : ax_Mod G m) (hd : 3 ≤ d) (hbad : (ax_in3 p.toInt64 0 4 && ax_in3 g.toInt64 0 5 && ax_in3 h.toInt64 0 5 && !decide (k < -1)) = false) : ax_Con l D T o yX11_ofTwo cX11_ofTwo 5 (some .int) d 0 0 [.ref m, .int p, .int g, .int h, .int k] G I L (ax_pure G I L (.int (-1))) := by
  refine ax_enter (by decide +kernel) (Nat.le_of_ble_eq_true rfl) ?_
  intro p_ e_ s_ m_ args_ below_ meth_ c_ C _
  refine x_lvs (lv' := [(0, .ref m), (1, .int p), (2, .int g), (3, .int h), (4, .int k)]) rfl ?_
  refine x_iload_n C (dk ddX11_ofTwo 0 rfl) rfl ?_
  refine x_i2l C (dk ddX11_ofTwo 1 rfl) ?_
  refine x_lconst C (v := 0) (dk ddX11_ofTwo 2 rfl) (by decide) ?_
  refine x_ldc2 C klX11_285 (dk ddX11_ofTwo 3 rfl) ?_
  refine x_callS C (As := [.long p.toInt64, .long 0, .long 4]) (k_X11_in l D T o (d - 1) G I L p.toInt64 0 4) mlX11_123 ⟨by show d - 1 + 1 ≤ d; omega, by show 40 * (d - 1 + 1) ≤ 40 * d; omega⟩ ⟨Nat.le_refl _, Nat.le_refl _⟩ rfl (Nat.le_of_ble_eq_true rfl) (dk ddX11_ofTwo 4 rfl) ?_
  rintro v_ G_ I_ L_ ⟨rfl, rfl, rfl, rfl⟩
  refine x_if_eq_b C (tgt := 32) (dk ddX11_ofTwo 5 rfl) (by decide) (fun h9 => ?_) (fun h9 => ?_)
  · refine x_iconst C (v := (-1)) (dk ddX11_ofTwo 15 rfl) (by decide) ?_
    exact x_iret C rfl (ax_pure_i rfl) rfl rfl (dk ddX11_ofTwo 16 rfl)
  · refine x_iload_n C (dk ddX11_ofTwo 6 rfl) rfl ?_
    refine x_callS C (As := [.int g]) (k_X11_isGroup l D T o (d - 1) G I L g (by omega)) mlX11_207 ⟨by show d - 1 + 1 ≤ d; omega, by show 40 * (d - 1 + 1) ≤ 40 * d; omega⟩ ⟨Nat.le_refl _, Nat.le_refl _⟩ rfl (Nat.le_of_ble_eq_true rfl) (dk ddX11_ofTwo 7 rfl) ?_
    rintro v_ G_ I_ L_ ⟨rfl, rfl, rfl, rfl⟩
    refine x_if_eq_b C (tgt := 32) (dk ddX11_ofTwo 8 rfl) (by decide) (fun h16 => ?_) (fun h16 => ?_)
    · refine x_iconst C (v := (-1)) (dk ddX11_ofTwo 15 rfl) (by decide) ?_
      exact x_iret C rfl (ax_pure_i rfl) rfl rfl (dk ddX11_ofTwo 16 rfl)
    · refine x_iload_n C (dk ddX11_ofTwo 9 rfl) rfl ?_
      refine x_callS C (As := [.int h]) (k_X11_isGroup l D T o (d - 1) G I L h (by omega)) mlX11_207 ⟨by show d - 1 + 1 ≤ d; omega, by show 40 * (d - 1 + 1) ≤ 40 * d; omega⟩ ⟨Nat.le_refl _, Nat.le_refl _⟩ rfl (Nat.le_of_ble_eq_true rfl) (dk ddX11_ofTwo 10 rfl) ?_
      rintro v_ G_ I_ L_ ⟨rfl, rfl, rfl, rfl⟩
      refine x_if_eq_b C (tgt := 32) (dk ddX11_ofTwo 11 rfl) (by decide) (fun h23 => ?_) (fun h23 => ?_)
      · refine x_iconst C (v := (-1)) (dk ddX11_ofTwo 15 rfl) (by decide) ?_
        exact x_iret C rfl (ax_pure_i rfl) rfl rfl (dk ddX11_ofTwo 16 rfl)
      · refine x_iload C (dk ddX11_ofTwo 12 rfl) rfl ?_
        refine x_iconst C (v := (-1)) (dk ddX11_ofTwo 13 rfl) (by decide) ?_
        refine x_icmp_ge C (tgt := 34) (dk ddX11_ofTwo 14 rfl) (by decide) (fun h29 => ?_) (fun h29 => ?_)
        · have h29c := Int32.not_lt.mpr h29
          exfalso
          simp_all
        · have h29c := Int32.not_le.mp h29
          refine x_iconst C (v := (-1)) (dk ddX11_ofTwo 15 rfl) (by decide) ?_
          exact x_iret C rfl (ax_pure_i rfl) rfl rfl (dk ddX11_ofTwo 16 rfl)
set_option maxRecDepth 20000 in
/-- ofTwo -/
theorem k_X11_ofTwo_many (l : Launch) (D : va_G) (T : Nat → ClassId) (o d : Nat) (G : ax_G) (I : ax_I) (L : ax_L) (m p g h rc wd r2 w2 fu : Nat) (S : Nat → Int32) (Y Z Q : ax_L) (hM : ax_Mod G m) (hS : I (m + 1) = S) (hg : g < 6) (hn : S (14 * g) = nI wd) (hw : wd ≤ 3) (hr : S (14 * g + 1) = nI rc) (hr4 : rc ≤ 4) (hh : h < 6) (hn2 : S (14 * h) = nI w2) (hw2 : w2 ≤ 3) (hr2 : S (14 * h + 1) = nI r2) (hr24 : r2 ≤ 4) (hp : p ≤ 4) (hY : ax_R1 m g rc wd fu S L = some Y) (hZ : ax_R1 m h r2 w2 fu S (ax_c1 (m + 13) (m + 14) wd Y) = some Z) (hF : ∀ k, k < wd → -9223372036854775808 < (Z (m + 14) k).toInt) (hR : ∀ k, k < w2 → -9223372036854775808 < (Z (m + 13) k).toInt) (hQ : ax_P1 m p wd w2 Z = some Q) (hd : 5 ≤ d) : ax_Con l D T o yX11_ofTwo cX11_ofTwo 5 (some .int) d 0 0 [.ref m, .int (nI p), .int (nI g), .int (nI h), .int (-1)] G I L (fun v G' I' L' => v = some (.int (nI (ax_ow (Q (m + 13)) (ax_pm p wd w2)))) ∧ G = G' ∧ ax_u (ax_RI m r2 w2 (ax_KI m rc wd I)) m 18 (nI (ax_pm p wd w2)) = I' ∧ Q = L') := by
  refine ax_enter (by decide +kernel) (Nat.le_of_ble_eq_true rfl) ?_
  intro p_ e_ s_ m_ args_ below_ meth_ c_ C _
  refine x_lvs (lv' := [(0, .ref m), (1, .int (nI p)), (2, .int (nI g)), (3, .int (nI h)), (4, .int (-1))]) rfl ?_
  have hxy : wd * w2 ≤ 9 := Nat.mul_le_mul hw hw2
  have hpm : ax_pm p wd w2 ≤ 9 := by unfold ax_pm; split <;> omega
  refine x_iload_n C (dk ddX11_ofTwo 0 rfl) rfl ?_
  refine x_i2l_n C (dk ddX11_ofTwo 1 rfl) (by omega) ?_
  refine x_lconst C (v := 0) (dk ddX11_ofTwo 2 rfl) (by decide) ?_
  refine x_ldc2 C klX11_285 (dk ddX11_ofTwo 3 rfl) ?_
  refine x_callS C (As := [.long (lN p), .long 0, .long 4]) (k_X11_in l D T o (d - 1) G I L (lN p) 0 4) mlX11_123 ⟨by show d - 1 + 1 ≤ d; omega, by show 40 * (d - 1 + 1) ≤ 40 * d; omega⟩ ⟨Nat.le_refl _, Nat.le_refl _⟩ rfl (Nat.le_of_ble_eq_true rfl) (dk ddX11_ofTwo 4 rfl) ?_
  rintro v_ G_ I_ L_ ⟨rfl, rfl, rfl, rfl⟩
  rw [show (ax_in3 (lN p) 0 4) = true from ax_in3_okL (h := 4) (by omega) (by decide)]
  refine x_if_eq_b C (tgt := 32) (dk ddX11_ofTwo 5 rfl) (by decide) (fun h_ => absurd h_ (by decide)) (fun _ => ?_)
  refine x_iload_n C (dk ddX11_ofTwo 6 rfl) rfl ?_
  refine x_callS C (As := [.int (nI g)]) (k_X11_isGroup l D T o (d - 1) G I L (nI g) (by omega)) mlX11_207 ⟨by show d - 1 + 1 ≤ d; omega, by show 40 * (d - 1 + 1) ≤ 40 * d; omega⟩ ⟨Nat.le_refl _, Nat.le_refl _⟩ rfl (Nat.le_of_ble_eq_true rfl) (dk ddX11_ofTwo 7 rfl) ?_
  rintro v_ G_ I_ L_ ⟨rfl, rfl, rfl, rfl⟩
  rw [show (ax_in3 (nI g).toInt64 0 5) = true from ax_in3_ok (h := 5) (by omega) (by decide)]
  refine x_if_eq_b C (tgt := 32) (dk ddX11_ofTwo 8 rfl) (by decide) (fun h_ => absurd h_ (by decide)) (fun _ => ?_)
  refine x_iload_n C (dk ddX11_ofTwo 9 rfl) rfl ?_
  refine x_callS C (As := [.int (nI h)]) (k_X11_isGroup l D T o (d - 1) G I L (nI h) (by omega)) mlX11_207 ⟨by show d - 1 + 1 ≤ d; omega, by show 40 * (d - 1 + 1) ≤ 40 * d; omega⟩ ⟨Nat.le_refl _, Nat.le_refl _⟩ rfl (Nat.le_of_ble_eq_true rfl) (dk ddX11_ofTwo 10 rfl) ?_
  rintro v_ G_ I_ L_ ⟨rfl, rfl, rfl, rfl⟩
  rw [show (ax_in3 (nI h).toInt64 0 5) = true from ax_in3_ok (h := 5) (by omega) (by decide)]
  refine x_if_eq_b C (tgt := 32) (dk ddX11_ofTwo 11 rfl) (by decide) (fun h_ => absurd h_ (by decide)) (fun _ => ?_)
  refine x_iload C (dk ddX11_ofTwo 12 rfl) rfl ?_
  refine x_iconst C (v := (-1)) (dk ddX11_ofTwo 13 rfl) (by decide) ?_
  refine x_icmp_ge C (tgt := 34) (dk ddX11_ofTwo 14 rfl) (by decide) (fun _ => ?_) (fun h_ => absurd h_ (by decide))
  refine x_aload_n C (dk ddX11_ofTwo 17 rfl) rfl ?_
  refine x_iload_n C (dk ddX11_ofTwo 18 rfl) rfl ?_
  refine x_callV C (ci := 11) (As := [.int (nI g)]) (k_X11_keepsRings l D T o (d - 1) G I L m g rc wd fu S Y hM hS hg hn hw hr hr4 hY (by omega)) mlX11_278 rfl rfl (hM.lt (j := 0) (by decide)) hM.2.1 ⟨by show d - 1 + 1 ≤ d; omega, by show 40 * (d - 1 + 1) ≤ 40 * d; omega⟩ ⟨Nat.le_refl _, Nat.le_refl _⟩ rfl (Nat.le_of_ble_eq_true rfl) (dk ddX11_ofTwo 19 rfl) ?_
  rintro v_ G_ I_ L_ ⟨rfl, rfl, rfl, rfl⟩
  refine x_aload_n C (dk ddX11_ofTwo 20 rfl) rfl ?_
  refine x_iload_n C (dk ddX11_ofTwo 21 rfl) rfl ?_
  refine x_callV C (ci := 11) (As := [.int (nI h)]) (k_X11_ringsOf l D T o (d - 1) G (ax_KI m rc wd I) (ax_c1 (m + 13) (m + 14) wd Y) m h r2 w2 fu S Z hM ((ax_KI_ne (by omega)).trans hS) hh hn2 hw2 hr2 hr24 hZ (by omega)) mlX11_258 rfl rfl (hM.lt (j := 0) (by decide)) hM.2.1 ⟨by show d - 1 + 1 ≤ d; omega, by show 40 * (d - 1 + 1) ≤ 40 * d; omega⟩ ⟨Nat.le_refl _, Nat.le_refl _⟩ rfl (Nat.le_of_ble_eq_true rfl) (dk ddX11_ofTwo 22 rfl) ?_
  rintro v_ G_ I_ L_ ⟨rfl, rfl, rfl, rfl⟩
  refine x_aload_n C (dk ddX11_ofTwo 23 rfl) rfl ?_
  refine x_iload_n C (dk ddX11_ofTwo 24 rfl) rfl ?_
  refine x_callV C (ci := 11) (As := [.int (nI p)]) (k_X11_pairsOf l D T o (d - 1) G (ax_RI m r2 w2 (ax_KI m rc wd I)) Z m p wd w2 Q hM hp ((ax_RI_o (by decide) (by decide) (by decide)).trans (ax_KI_20 _ _ _ _)) hw (ax_RI_18 _ _ _ _) hw2 hF hR hQ (by omega)) mlX11_287 rfl rfl (hM.lt (j := 0) (by decide)) hM.2.1 ⟨by show d - 1 + 1 ≤ d; omega, by show 40 * (d - 1 + 1) ≤ 40 * d; omega⟩ ⟨Nat.le_refl _, Nat.le_refl _⟩ rfl (Nat.le_of_ble_eq_true rfl) (dk ddX11_ofTwo 25 rfl) ?_
  rintro v_ G_ I_ L_ ⟨rfl, rfl, rfl, rfl⟩
  refine x_aload_n C (dk ddX11_ofTwo 26 rfl) rfl ?_
  refine x_iload C (dk ddX11_ofTwo 27 rfl) rfl ?_
  refine x_callV C (ci := 11) (As := [.int (-1)]) (k_X11_ownRing_many l D T o (d - 1) G (ax_u (ax_RI m r2 w2 (ax_KI m rc wd I)) m 18 (nI (ax_pm p wd w2))) Q m (ax_pm p wd w2) (-1) hM (ax_u_at _ _ _ _) hpm (by decide) (by omega)) mlX11_290 rfl rfl (hM.lt (j := 0) (by decide)) hM.2.1 ⟨by show d - 1 + 1 ≤ d; omega, by show 40 * (d - 1 + 1) ≤ 40 * d; omega⟩ ⟨Nat.le_refl _, Nat.le_refl _⟩ rfl (Nat.le_of_ble_eq_true rfl) (dk ddX11_ofTwo 28 rfl) ?_
  rintro v_ G_ I_ L_ ⟨rfl, rfl, rfl, rfl⟩
  exact x_iret C rfl ⟨rfl, rfl, rfl, rfl⟩ rfl rfl (dk ddX11_ofTwo 29 rfl)
set_option maxRecDepth 20000 in
/-- ofTwo -/
theorem k_X11_ofTwo (l : Launch) (D : va_G) (T : Nat → ClassId) (o d : Nat) (G : ax_G) (I : ax_I) (L : ax_L) (m p g h rc wd r2 w2 fu k : Nat) (S : Nat → Int32) (Y Z Q : ax_L) (hM : ax_Mod G m) (hS : I (m + 1) = S) (hg : g < 6) (hn : S (14 * g) = nI wd) (hw : wd ≤ 3) (hr : S (14 * g + 1) = nI rc) (hr4 : rc ≤ 4) (hh : h < 6) (hn2 : S (14 * h) = nI w2) (hw2 : w2 ≤ 3) (hr2 : S (14 * h + 1) = nI r2) (hr24 : r2 ≤ 4) (hp : p ≤ 4) (hY : ax_R1 m g rc wd fu S L = some Y) (hZ : ax_R1 m h r2 w2 fu S (ax_c1 (m + 13) (m + 14) wd Y) = some Z) (hF : ∀ k, k < wd → -9223372036854775808 < (Z (m + 14) k).toInt) (hR : ∀ k, k < w2 → -9223372036854775808 < (Z (m + 13) k).toInt) (hQ : ax_P1 m p wd w2 Z = some Q) (hk : k < 2 ^ 31) (hd : 5 ≤ d) : ax_Con l D T o yX11_ofTwo cX11_ofTwo 5 (some .int) d 0 0 [.ref m, .int (nI p), .int (nI g), .int (nI h), .int (nI k)] G I L (fun v G' I' L' => v = some (.int (ax_or (Q (m + 13)) k (ax_pm p wd w2) 0 0)) ∧ G = G' ∧ ax_u (ax_RI m r2 w2 (ax_KI m rc wd I)) m 18 (nI (ax_pm p wd w2)) = I' ∧ Q = L') := by
  refine ax_enter (by decide +kernel) (Nat.le_of_ble_eq_true rfl) ?_
  intro p_ e_ s_ m_ args_ below_ meth_ c_ C _
  refine x_lvs (lv' := [(0, .ref m), (1, .int (nI p)), (2, .int (nI g)), (3, .int (nI h)), (4, .int (nI k))]) rfl ?_
  have hxy : wd * w2 ≤ 9 := Nat.mul_le_mul hw hw2
  have hpm : ax_pm p wd w2 ≤ 9 := by unfold ax_pm; split <;> omega
  refine x_iload_n C (dk ddX11_ofTwo 0 rfl) rfl ?_
  refine x_i2l_n C (dk ddX11_ofTwo 1 rfl) (by omega) ?_
  refine x_lconst C (v := 0) (dk ddX11_ofTwo 2 rfl) (by decide) ?_
  refine x_ldc2 C klX11_285 (dk ddX11_ofTwo 3 rfl) ?_
  refine x_callS C (As := [.long (lN p), .long 0, .long 4]) (k_X11_in l D T o (d - 1) G I L (lN p) 0 4) mlX11_123 ⟨by show d - 1 + 1 ≤ d; omega, by show 40 * (d - 1 + 1) ≤ 40 * d; omega⟩ ⟨Nat.le_refl _, Nat.le_refl _⟩ rfl (Nat.le_of_ble_eq_true rfl) (dk ddX11_ofTwo 4 rfl) ?_
  rintro v_ G_ I_ L_ ⟨rfl, rfl, rfl, rfl⟩
  rw [show (ax_in3 (lN p) 0 4) = true from ax_in3_okL (h := 4) (by omega) (by decide)]
  refine x_if_eq_b C (tgt := 32) (dk ddX11_ofTwo 5 rfl) (by decide) (fun h_ => absurd h_ (by decide)) (fun _ => ?_)
  refine x_iload_n C (dk ddX11_ofTwo 6 rfl) rfl ?_
  refine x_callS C (As := [.int (nI g)]) (k_X11_isGroup l D T o (d - 1) G I L (nI g) (by omega)) mlX11_207 ⟨by show d - 1 + 1 ≤ d; omega, by show 40 * (d - 1 + 1) ≤ 40 * d; omega⟩ ⟨Nat.le_refl _, Nat.le_refl _⟩ rfl (Nat.le_of_ble_eq_true rfl) (dk ddX11_ofTwo 7 rfl) ?_
  rintro v_ G_ I_ L_ ⟨rfl, rfl, rfl, rfl⟩
  rw [show (ax_in3 (nI g).toInt64 0 5) = true from ax_in3_ok (h := 5) (by omega) (by decide)]
  refine x_if_eq_b C (tgt := 32) (dk ddX11_ofTwo 8 rfl) (by decide) (fun h_ => absurd h_ (by decide)) (fun _ => ?_)
  refine x_iload_n C (dk ddX11_ofTwo 9 rfl) rfl ?_
  refine x_callS C (As := [.int (nI h)]) (k_X11_isGroup l D T o (d - 1) G I L (nI h) (by omega)) mlX11_207 ⟨by show d - 1 + 1 ≤ d; omega, by show 40 * (d - 1 + 1) ≤ 40 * d; omega⟩ ⟨Nat.le_refl _, Nat.le_refl _⟩ rfl (Nat.le_of_ble_eq_true rfl) (dk ddX11_ofTwo 10 rfl) ?_
  rintro v_ G_ I_ L_ ⟨rfl, rfl, rfl, rfl⟩
  rw [show (ax_in3 (nI h).toInt64 0 5) = true from ax_in3_ok (h := 5) (by omega) (by decide)]
  refine x_if_eq_b C (tgt := 32) (dk ddX11_ofTwo 11 rfl) (by decide) (fun h_ => absurd h_ (by decide)) (fun _ => ?_)
  refine x_iload C (dk ddX11_ofTwo 12 rfl) rfl ?_
  refine x_iconst C (v := (-1)) (dk ddX11_ofTwo 13 rfl) (by decide) ?_
  refine x_icmp_ge C (tgt := 34) (dk ddX11_ofTwo 14 rfl) (by decide) (fun h29 => ?_) (fun h29 => ?_)
  · have h29c := Int32.not_lt.mpr h29
    refine x_aload_n C (dk ddX11_ofTwo 17 rfl) rfl ?_
    refine x_iload_n C (dk ddX11_ofTwo 18 rfl) rfl ?_
    refine x_callV C (ci := 11) (As := [.int (nI g)]) (k_X11_keepsRings l D T o (d - 1) G I L m g rc wd fu S Y hM hS hg hn hw hr hr4 hY (by omega)) mlX11_278 rfl rfl (hM.lt (j := 0) (by decide)) hM.2.1 ⟨by show d - 1 + 1 ≤ d; omega, by show 40 * (d - 1 + 1) ≤ 40 * d; omega⟩ ⟨Nat.le_refl _, Nat.le_refl _⟩ rfl (Nat.le_of_ble_eq_true rfl) (dk ddX11_ofTwo 19 rfl) ?_
    rintro v_ G_ I_ L_ ⟨rfl, rfl, rfl, rfl⟩
    refine x_aload_n C (dk ddX11_ofTwo 20 rfl) rfl ?_
    refine x_iload_n C (dk ddX11_ofTwo 21 rfl) rfl ?_
    refine x_callV C (ci := 11) (As := [.int (nI h)]) (k_X11_ringsOf l D T o (d - 1) G (ax_KI m rc wd I) (ax_c1 (m + 13) (m + 14) wd Y) m h r2 w2 fu S Z hM ((ax_KI_ne (by omega)).trans hS) hh hn2 hw2 hr2 hr24 hZ (by omega)) mlX11_258 rfl rfl (hM.lt (j := 0) (by decide)) hM.2.1 ⟨by show d - 1 + 1 ≤ d; omega, by show 40 * (d - 1 + 1) ≤ 40 * d; omega⟩ ⟨Nat.le_refl _, Nat.le_refl _⟩ rfl (Nat.le_of_ble_eq_true rfl) (dk ddX11_ofTwo 22 rfl) ?_
    rintro v_ G_ I_ L_ ⟨rfl, rfl, rfl, rfl⟩
    refine x_aload_n C (dk ddX11_ofTwo 23 rfl) rfl ?_
    refine x_iload_n C (dk ddX11_ofTwo 24 rfl) rfl ?_
    refine x_callV C (ci := 11) (As := [.int (nI p)]) (k_X11_pairsOf l D T o (d - 1) G (ax_RI m r2 w2 (ax_KI m rc wd I)) Z m p wd w2 Q hM hp ((ax_RI_o (by decide) (by decide) (by decide)).trans (ax_KI_20 _ _ _ _)) hw (ax_RI_18 _ _ _ _) hw2 hF hR hQ (by omega)) mlX11_287 rfl rfl (hM.lt (j := 0) (by decide)) hM.2.1 ⟨by show d - 1 + 1 ≤ d; omega, by show 40 * (d - 1 + 1) ≤ 40 * d; omega⟩ ⟨Nat.le_refl _, Nat.le_refl _⟩ rfl (Nat.le_of_ble_eq_true rfl) (dk ddX11_ofTwo 25 rfl) ?_
    rintro v_ G_ I_ L_ ⟨rfl, rfl, rfl, rfl⟩
    refine x_aload_n C (dk ddX11_ofTwo 26 rfl) rfl ?_
    refine x_iload C (dk ddX11_ofTwo 27 rfl) rfl ?_
    refine x_callV C (ci := 11) (As := [.int (nI k)]) (k_X11_ownRing l D T o (d - 1) G (ax_u (ax_RI m r2 w2 (ax_KI m rc wd I)) m 18 (nI (ax_pm p wd w2))) Q m (ax_pm p wd w2) k hM (ax_u_at _ _ _ _) hpm hk (by omega)) mlX11_290 rfl rfl (hM.lt (j := 0) (by decide)) hM.2.1 ⟨by show d - 1 + 1 ≤ d; omega, by show 40 * (d - 1 + 1) ≤ 40 * d; omega⟩ ⟨Nat.le_refl _, Nat.le_refl _⟩ rfl (Nat.le_of_ble_eq_true rfl) (dk ddX11_ofTwo 28 rfl) ?_
    rintro v_ G_ I_ L_ ⟨rfl, rfl, rfl, rfl⟩
    exact x_iret C rfl ⟨rfl, rfl, rfl, rfl⟩ rfl rfl (dk ddX11_ofTwo 29 rfl)
  · have h29c := Int32.not_le.mp h29
    exfalso
    exact h29 (Int32.le_trans (by decide) (nI_pos' hk))

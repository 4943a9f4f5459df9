/-! ===== the reference: ringsBetween ===== -/
theorem ax_u_comm {α : Type} {f : Nat → Nat → α} {a j i : Nat} {v x : α} (h : j ≠ i) : ax_u (ax_u f a j v) a i x = ax_u (ax_u f a i x) a j v := by
  funext b k
  unfold ax_u
  by_cases hb : b = a
  · simp only [if_pos hb]
    by_cases hk : k = i
    · rw [if_pos hk, if_neg (by omega), if_pos hk]
    · rw [if_neg hk, if_neg hk]
  · simp only [if_neg hb]
/-- how many rows lead -/
def ax_rk (H : Nat → Int64) : Nat → Nat
  | 0 => 0
  | n + 1 => ax_rk H n + (if H (7 * n) = 0 then 0 else 1)
theorem ax_rk_le (H : Nat → Int64) : ∀ n, ax_rk H n ≤ n
  | 0 => Nat.le_refl _
  | n + 1 => by have := ax_rk_le H n; show _ + _ ≤ _; split <;> omega
def ax_mc (t b r : Nat) : Nat → ax_L → ax_L
  | 0, L => L
  | n + 1, L => ax_u (ax_mc t b r n L) t n (ax_mc t b r n L b (6 * r + n))
/-- the row made told by rows that lead, the first so many places: how many columns, the memory -/
def ax_bt (m a r : Nat) : Nat → ax_L → Nat × ax_L
  | 0, L => (0, L)
  | n + 1, L => if (ax_bt m a r n L).2 a (7 * n) = 0 then ax_bt m a r n L else ((ax_bt m a r n L).1 + 1, ax_ta (m + 11) 0 a n ((ax_bt m a r n L).2 (m + 11) n / (ax_bt m a r n L).2 a (7 * n)) 6 (ax_u (ax_bt m a r n L).2 (m + 12) (3 * r + (ax_bt m a r n L).1) ((ax_bt m a r n L).2 (m + 11) n / (ax_bt m a r n L).2 a (7 * n))))
theorem ax_bt_le (m a r : Nat) (L : ax_L) : ∀ n, (ax_bt m a r n L).1 ≤ n
  | 0 => Nat.le_refl _
  | n + 1 => by
    have := ax_bt_le m a r L n
    show (if _ then _ else _ : Nat × ax_L).1 ≤ n + 1
    split
    · omega
    · show _ + 1 ≤ _; omega
def ax_bo (m a b wd : Nat) : Nat → ax_L → ax_L
  | 0, L => L
  | n + 1, L => (ax_bt m a n wd (ax_mc (m + 11) b n 6 (ax_bo m a b wd n L))).2
/-- what ringsBetween makes -/
def ax_B1 (m a b wd fu : Nat) (L : ax_L) : Option ax_L := ax_G1 m wd (ax_rk (L a) wd) fu (ax_bo m a b wd wd L)
/-- the fields then -/
def ax_BI (m wd rk : Nat) (I : ax_I) : ax_I := ax_u (ax_u (ax_u I m 16 (nI wd)) m 17 (nI rk)) m 18 (nI rk)
set_option maxRecDepth 20000 in
/-- ringsBetween(all, less, width) -/
theorem k_X11_ringsBetween (l : Launch) (D : va_G) (T : Nat → ClassId) (o d : Nat) (G : ax_G) (I : ax_I) (L : ax_L) (m a b wd fu : Nat) (Y : ax_L) (hM : ax_Mod G m) (ha : ax_La G a 36) (hb : ax_La G b 36) (hw : wd ≤ 3) (hY : ax_B1 m a b wd fu L = some Y) (hd : 3 ≤ d) : ax_Con l D T o yX11_ringsBetween cX11_ringsBetween 9 none d 0 0 [.ref m, .ref a, .ref b, .int (nI wd)] G I L (fun v G' I' L' => v = none ∧ G = G' ∧ ax_BI m wd (ax_rk (L a) wd) I = I' ∧ Y = L') := by
  refine ax_enter (by decide +kernel) (Nat.le_of_ble_eq_true rfl) ?_
  intro p_ e_ s_ m_ args_ below_ meth_ c_ C _
  refine x_lvs (lv' := [(0, .ref m), (1, .ref a), (2, .ref b), (3, .int (nI wd))]) rfl ?_
  have hrow : ∀ (n_ r : Nat), r + n_ = wd → ax_XM p_ l e_ s_ m_ args_ below_ meth_ c_ 9 D T o d 0 0 G (fun v G' I' L' => v = none ∧ G = G' ∧ ax_BI m wd (ax_rk (L a) wd) I = I' ∧ Y = L') G (ax_u (ax_u I m 16 (nI wd)) m 17 (nI (ax_rk (L a) wd))) (ax_bo m a b wd r L) 54 [(4, .int (nI r)), (0, .ref m), (1, .ref a), (2, .ref b), (3, .int (nI wd))] [] := by
    intro n_
    induction n_ with
    | zero =>
      intro r hk_
      rw [show r = wd by omega]
      refine x_iload C (dk ddX11_ringsBetween 31 rfl) rfl ?_
      refine x_iload_n C (dk ddX11_ringsBetween 32 rfl) rfl ?_
      refine x_icmp_ge_n C (tgt := 177) (dk ddX11_ringsBetween 33 rfl) (by decide) (by omega) (by omega) (fun h57 => ?_) (fun h57 => ?_)
      · refine x_aload_n C (dk ddX11_ringsBetween_p1 0 rfl) rfl ?_
        refine x_callV C (ci := 11) (As := []) (k_X11_ringsOfGrid l D T o (d - 1) G (ax_u (ax_u I m 16 (nI wd)) m 17 (nI (ax_rk (L a) wd))) (ax_bo m a b wd wd L) m wd (ax_rk (L a) wd) fu Y hM (by simp [ax_u]) (by omega) (by simp [ax_u]) (Nat.le_trans (ax_rk_le _ _) hw) hY (by omega)) mlX11_251 rfl rfl (hM.lt (j := 0) (by decide)) hM.2.1 ⟨by show d - 1 + 1 ≤ d; omega, by show 40 * (d - 1 + 1) ≤ 40 * d; omega⟩ ⟨Nat.le_refl _, Nat.le_refl _⟩ rfl (Nat.le_of_ble_eq_true rfl) (dk ddX11_ringsBetween_p1 1 rfl) ?_
        rintro v_ G_ I_ L_ ⟨rfl, rfl, rfl, rfl⟩
        exact x_vret C rfl ⟨rfl, rfl, rfl, rfl⟩ rfl rfl (dk ddX11_ringsBetween_p1 2 rfl)
      · exfalso
        omega
    | succ n_ ih_ =>
      intro r hk_
      refine x_iload C (dk ddX11_ringsBetween 31 rfl) rfl ?_
      refine x_iload_n C (dk ddX11_ringsBetween 32 rfl) rfl ?_
      refine x_icmp_ge_n C (tgt := 177) (dk ddX11_ringsBetween 33 rfl) (by decide) (by omega) (by omega) (fun h57 => ?_) (fun h57 => ?_)
      · exfalso
        omega
      · refine x_iconst C (v := nI 0) (dk ddX11_ringsBetween 34 rfl) (by decide) ?_
        refine x_istore C (lv' := [(5, .int (nI 0)), (4, .int (nI r)), (0, .ref m), (1, .ref a), (2, .ref b), (3, .int (nI wd))]) (dk ddX11_ringsBetween 35 rfl) (by decide) rfl ?_
        have hinC : ∀ (nq_ q : Nat), q + nq_ = 6 → ax_XM p_ l e_ s_ m_ args_ below_ meth_ c_ 9 D T o d 0 0 G (fun v G' I' L' => v = none ∧ G = G' ∧ ax_BI m wd (ax_rk (L a) wd) I = I' ∧ Y = L') G (ax_u (ax_u I m 16 (nI wd)) m 17 (nI (ax_rk (L a) wd))) (ax_mc (m + 11) b r q (ax_bo m a b wd r L)) 63 [(5, .int (nI q)), (4, .int (nI r)), (0, .ref m), (1, .ref a), (2, .ref b), (3, .int (nI wd))] [] := by
          intro nq_
          induction nq_ with
          | zero =>
            intro q hkq_
            rw [show q = 6 by omega]
            refine x_iload C (dk ddX11_ringsBetween 36 rfl) rfl ?_
            refine x_bipush C (v := nI 6) (dk ddX11_ringsBetween 37 rfl) (by decide) ?_
            refine x_icmp_ge_n C (tgt := 93) (dk ddX11_ringsBetween 38 rfl) (by decide) (by decide) (by decide) (fun _ => ?_) (fun h_ => absurd h_ (by decide))
            refine x_iconst C (v := nI 0) (dk ddX11_ringsBetween 52 rfl) (by decide) ?_
            refine x_istore C (lv' := [(5, .int (nI 0)), (4, .int (nI r)), (0, .ref m), (1, .ref a), (2, .ref b), (3, .int (nI wd))]) (dk ddX11_ringsBetween 53 rfl) (by decide) rfl ?_
            refine x_iconst C (v := nI 0) (dk ddX11_ringsBetween 54 rfl) (by decide) ?_
            refine x_istore C (lv' := [(6, .int (nI 0)), (5, .int (nI 0)), (4, .int (nI r)), (0, .ref m), (1, .ref a), (2, .ref b), (3, .int (nI wd))]) (dk ddX11_ringsBetween 55 rfl) (by decide) rfl ?_
            have hle := fun k => ax_bt_le m a r (ax_mc (m + 11) b r 6 (ax_bo m a b wd r L)) k
            have hinT : ∀ (nq_ k : Nat), k + nq_ = wd → ax_XM p_ l e_ s_ m_ args_ below_ meth_ c_ 9 D T o d 0 0 G (fun v G' I' L' => v = none ∧ G = G' ∧ ax_BI m wd (ax_rk (L a) wd) I = I' ∧ Y = L') G (ax_u (ax_u I m 16 (nI wd)) m 17 (nI (ax_rk (L a) wd))) ((ax_bt m a r k (ax_mc (m + 11) b r 6 (ax_bo m a b wd r L))).2) 99 [(5, .int (nI ((ax_bt m a r k (ax_mc (m + 11) b r 6 (ax_bo m a b wd r L))).1))), (6, .int (nI k)), (4, .int (nI r)), (0, .ref m), (1, .ref a), (2, .ref b), (3, .int (nI wd))] [] := by
              intro nq_
              induction nq_ with
              | zero =>
                intro k hkq_
                rw [show k = wd by omega]
                refine x_iload C (dk ddX11_ringsBetween 56 rfl) rfl ?_
                refine x_iload_n C (dk ddX11_ringsBetween 57 rfl) rfl ?_
                refine x_icmp_ge_n C (tgt := 171) (dk ddX11_ringsBetween 58 rfl) (by decide) (by omega) (by omega) (fun h102 => ?_) (fun h102 => ?_)
                · refine x_iinc C (v := nI (r + 1)) (lv' := [(4, .int (nI (r + 1))), (5, .int (nI ((ax_bt m a r wd (ax_mc (m + 11) b r 6 (ax_bo m a b wd r L))).1))), (6, .int (nI wd)), (0, .ref m), (1, .ref a), (2, .ref b), (3, .int (nI wd))]) (dk ddX11_ringsBetween 98 rfl) rfl (nI_add r 1) (by decide) rfl ?_
                  refine x_goto C (tgt := 54) (dk ddX11_ringsBetween 99 rfl) (by decide) ?_
                  refine x_sub [0, 3, 4, 5, 6] (lv' := [(4, .int (nI (r + 1))), (0, .ref m), (1, .ref a), (2, .ref b), (3, .int (nI wd))]) rfl ?_
                  exact ih_ (r + 1) (by omega)
                · exfalso
                  omega
              | succ nq_ ihq_ =>
                intro k hkq_
                refine x_iload C (dk ddX11_ringsBetween 56 rfl) rfl ?_
                refine x_iload_n C (dk ddX11_ringsBetween 57 rfl) rfl ?_
                refine x_icmp_ge_n C (tgt := 171) (dk ddX11_ringsBetween 58 rfl) (by decide) (by omega) (by omega) (fun h102 => ?_) (fun h102 => ?_)
                · exfalso
                  omega
                · refine x_aload_n C (dk ddX11_ringsBetween 59 rfl) rfl ?_
                  refine x_bipush C (v := nI 7) (dk ddX11_ringsBetween 60 rfl) (by decide) ?_
                  refine x_iload C (dk ddX11_ringsBetween 61 rfl) rfl ?_
                  refine x_imul_n C (dk ddX11_ringsBetween 62 rfl) ?_
                  refine x_lald_n C ha.1 ha.2.1 ha.2.2 (by omega) (by decide) (dk ddX11_ringsBetween 63 rfl) ?_
                  refine x_lconst C (v := 0) (dk ddX11_ringsBetween 64 rfl) (by decide) ?_
                  refine x_lc_eq C (tgt := 165) (dk ddX11_ringsBetween 65 rfl) (dk ddX11_ringsBetween 66 rfl) (by decide) (fun h113 => ?_) (fun h113 => ?_)
                  · refine x_iinc C (v := nI (k + 1)) (lv' := [(6, .int (nI (k + 1))), (5, .int (nI ((ax_bt m a r k (ax_mc (m + 11) b r 6 (ax_bo m a b wd r L))).1))), (4, .int (nI r)), (0, .ref m), (1, .ref a), (2, .ref b), (3, .int (nI wd))]) (dk ddX11_ringsBetween 96 rfl) rfl (nI_add k 1) (by decide) rfl ?_
                    refine x_goto C (tgt := 99) (dk ddX11_ringsBetween 97 rfl) (by decide) ?_
                    have e_ : ax_bt m a r (k + 1) (ax_mc (m + 11) b r 6 (ax_bo m a b wd r L)) = ax_bt m a r k (ax_mc (m + 11) b r 6 (ax_bo m a b wd r L)) := by show (if _ then _ else _ : Nat × ax_L) = _; rw [if_pos h113]
                    refine x_sub [1, 0, 2, 3, 4, 5, 6] (lv' := [(5, .int (nI ((ax_bt m a r k (ax_mc (m + 11) b r 6 (ax_bo m a b wd r L))).1))), (6, .int (nI (k + 1))), (4, .int (nI r)), (0, .ref m), (1, .ref a), (2, .ref b), (3, .int (nI wd))]) rfl ?_
                    have h_ := ihq_ (k + 1) (by omega)
                    rw [e_] at h_
                    exact h_
                  · have hk3_ := hle k
                    refine x_aload_n C (dk ddX11_ringsBetween 67 rfl) rfl ?_
                    refine x_getr C flX11_41 rfl (hM.lt (j := 0) (by decide)) hM.2.1 (show ax_R G m 13 = some (m + 11) from (hM.2.2 10 _ rfl).1) (dk ddX11_ringsBetween 68 rfl) ?_
                    refine x_iload C (dk ddX11_ringsBetween 69 rfl) rfl ?_
                    refine x_lald_n C (hM.lt (j := 11) (by decide)) (hM.2.2 10 _ rfl).2.1 (show ax_N G (m + 11) = 6 from (hM.2.2 10 _ rfl).2.2) (by omega) (by decide) (dk ddX11_ringsBetween 70 rfl) ?_
                    refine x_aload_n C (dk ddX11_ringsBetween 71 rfl) rfl ?_
                    refine x_bipush C (v := nI 7) (dk ddX11_ringsBetween 72 rfl) (by decide) ?_
                    refine x_iload C (dk ddX11_ringsBetween 73 rfl) rfl ?_
                    refine x_imul_n C (dk ddX11_ringsBetween 74 rfl) ?_
                    refine x_lald_n C ha.1 ha.2.1 ha.2.2 (by omega) (by decide) (dk ddX11_ringsBetween 75 rfl) ?_
                    refine x_ldiv C (dk ddX11_ringsBetween 76 rfl) h113 ?_
                    refine x_lstore C (lv' := [(7, .long ((((ax_bt m a r k (ax_mc (m + 11) b r 6 (ax_bo m a b wd r L))).2) (m + 11) k) / (((ax_bt m a r k (ax_mc (m + 11) b r 6 (ax_bo m a b wd r L))).2) a (7 * k)))), (5, .int (nI ((ax_bt m a r k (ax_mc (m + 11) b r 6 (ax_bo m a b wd r L))).1))), (6, .int (nI k)), (4, .int (nI r)), (0, .ref m), (1, .ref a), (2, .ref b), (3, .int (nI wd))]) (dk ddX11_ringsBetween 77 rfl) (by decide) rfl ?_
                    refine x_aload_n C (dk ddX11_ringsBetween 78 rfl) rfl ?_
                    refine x_getr C flX11_44 rfl (hM.lt (j := 0) (by decide)) hM.2.1 (show ax_R G m 14 = some (m + 12) from (hM.2.2 11 _ rfl).1) (dk ddX11_ringsBetween 79 rfl) ?_
                    refine x_iconst C (v := nI 3) (dk ddX11_ringsBetween 80 rfl) (by decide) ?_
                    refine x_iload C (dk ddX11_ringsBetween 81 rfl) rfl ?_
                    refine x_imul_n C (dk ddX11_ringsBetween 82 rfl) ?_
                    refine x_iload C (dk ddX11_ringsBetween 83 rfl) rfl ?_
                    refine x_iadd_n C (dk ddX11_ringsBetween 84 rfl) ?_
                    refine x_lload C (dk ddX11_ringsBetween 85 rfl) rfl ?_
                    refine x_last_n C (hM.lt (j := 12) (by decide)) (hM.2.2 11 _ rfl).2.1 (show ax_N G (m + 12) = 24 from (hM.2.2 11 _ rfl).2.2) (by omega) (by decide) (dk ddX11_ringsBetween 86 rfl) ?_
                    refine x_iinc C (v := nI ((ax_bt m a r k (ax_mc (m + 11) b r 6 (ax_bo m a b wd r L))).1 + 1)) (lv' := [(5, .int (nI ((ax_bt m a r k (ax_mc (m + 11) b r 6 (ax_bo m a b wd r L))).1 + 1))), (7, .long ((((ax_bt m a r k (ax_mc (m + 11) b r 6 (ax_bo m a b wd r L))).2) (m + 11) k) / (((ax_bt m a r k (ax_mc (m + 11) b r 6 (ax_bo m a b wd r L))).2) a (7 * k)))), (6, .int (nI k)), (4, .int (nI r)), (0, .ref m), (1, .ref a), (2, .ref b), (3, .int (nI wd))]) (dk ddX11_ringsBetween 87 rfl) rfl (nI_add ((ax_bt m a r k (ax_mc (m + 11) b r 6 (ax_bo m a b wd r L))).1) 1) (by decide) rfl ?_
                    refine x_aload_n C (dk ddX11_ringsBetween 88 rfl) rfl ?_
                    refine x_aload_n C (dk ddX11_ringsBetween 89 rfl) rfl ?_
                    refine x_getr C flX11_41 rfl (hM.lt (j := 0) (by decide)) hM.2.1 (show ax_R G m 13 = some (m + 11) from (hM.2.2 10 _ rfl).1) (dk ddX11_ringsBetween 90 rfl) ?_
                    refine x_iconst C (v := nI 0) (dk ddX11_ringsBetween 91 rfl) (by decide) ?_
                    refine x_aload_n C (dk ddX11_ringsBetween 92 rfl) rfl ?_
                    refine x_iload C (dk ddX11_ringsBetween 93 rfl) rfl ?_
                    refine x_lload C (dk ddX11_ringsBetween 94 rfl) rfl ?_
                    refine x_callV C (ci := 11) (As := [.ref (m + 11), .int (nI 0), .ref a, .int (nI k), .long ((((ax_bt m a r k (ax_mc (m + 11) b r 6 (ax_bo m a b wd r L))).2) (m + 11) k) / (((ax_bt m a r k (ax_mc (m + 11) b r 6 (ax_bo m a b wd r L))).2) a (7 * k)))]) (k_X11_takesAway l D T o (d - 1) G (ax_u (ax_u I m 16 (nI wd)) m 17 (nI (ax_rk (L a) wd))) (ax_u ((ax_bt m a r k (ax_mc (m + 11) b r 6 (ax_bo m a b wd r L))).2) (m + 12) (3 * r + ((ax_bt m a r k (ax_mc (m + 11) b r 6 (ax_bo m a b wd r L))).1)) ((((ax_bt m a r k (ax_mc (m + 11) b r 6 (ax_bo m a b wd r L))).2) (m + 11) k) / (((ax_bt m a r k (ax_mc (m + 11) b r 6 (ax_bo m a b wd r L))).2) a (7 * k)))) m (m + 11) 0 a k 6 36 ((((ax_bt m a r k (ax_mc (m + 11) b r 6 (ax_bo m a b wd r L))).2) (m + 11) k) / (((ax_bt m a r k (ax_mc (m + 11) b r 6 (ax_bo m a b wd r L))).2) a (7 * k))) ⟨(hM.lt (j := 11) (by decide)), (hM.2.2 10 _ rfl).2.1, (show ax_N G (m + 11) = 6 from (hM.2.2 10 _ rfl).2.2)⟩ ⟨ha.1, ha.2.1, ha.2.2⟩ (by omega) (by omega) (by decide) (by decide)) mlX11_148 rfl rfl (hM.lt (j := 0) (by decide)) hM.2.1 ⟨by show d - 1 + 1 ≤ d; omega, by show 40 * (d - 1 + 1) ≤ 40 * d; omega⟩ ⟨Nat.le_refl _, Nat.le_refl _⟩ rfl (Nat.le_of_ble_eq_true rfl) (dk ddX11_ringsBetween 95 rfl) ?_
                    rintro v_ G_ I_ L_ ⟨rfl, rfl, rfl, rfl⟩
                    refine x_iinc C (v := nI (k + 1)) (lv' := [(6, .int (nI (k + 1))), (5, .int (nI ((ax_bt m a r k (ax_mc (m + 11) b r 6 (ax_bo m a b wd r L))).1 + 1))), (7, .long ((((ax_bt m a r k (ax_mc (m + 11) b r 6 (ax_bo m a b wd r L))).2) (m + 11) k) / (((ax_bt m a r k (ax_mc (m + 11) b r 6 (ax_bo m a b wd r L))).2) a (7 * k)))), (4, .int (nI r)), (0, .ref m), (1, .ref a), (2, .ref b), (3, .int (nI wd))]) (dk ddX11_ringsBetween 96 rfl) rfl (nI_add k 1) (by decide) rfl ?_
                    refine x_goto C (tgt := 99) (dk ddX11_ringsBetween 97 rfl) (by decide) ?_
                    have e_ : ax_bt m a r (k + 1) (ax_mc (m + 11) b r 6 (ax_bo m a b wd r L)) = ((ax_bt m a r k (ax_mc (m + 11) b r 6 (ax_bo m a b wd r L))).1 + 1, ax_ta (m + 11) 0 a k ((((ax_bt m a r k (ax_mc (m + 11) b r 6 (ax_bo m a b wd r L))).2) (m + 11) k) / (((ax_bt m a r k (ax_mc (m + 11) b r 6 (ax_bo m a b wd r L))).2) a (7 * k))) 6 (ax_u ((ax_bt m a r k (ax_mc (m + 11) b r 6 (ax_bo m a b wd r L))).2) (m + 12) (3 * r + ((ax_bt m a r k (ax_mc (m + 11) b r 6 (ax_bo m a b wd r L))).1)) ((((ax_bt m a r k (ax_mc (m + 11) b r 6 (ax_bo m a b wd r L))).2) (m + 11) k) / (((ax_bt m a r k (ax_mc (m + 11) b r 6 (ax_bo m a b wd r L))).2) a (7 * k))))) := by show (if _ then _ else _ : Nat × ax_L) = _; rw [if_neg h113]
                    refine x_sub [1, 0, 3, 4, 5, 6, 7] (lv' := [(5, .int (nI ((ax_bt m a r k (ax_mc (m + 11) b r 6 (ax_bo m a b wd r L))).1 + 1))), (6, .int (nI (k + 1))), (4, .int (nI r)), (0, .ref m), (1, .ref a), (2, .ref b), (3, .int (nI wd))]) rfl ?_
                    have h_ := ihq_ (k + 1) (by omega)
                    rw [e_] at h_
                    exact h_
            refine x_sub [1, 0, 2, 3, 4, 5, 6] (lv' := [(5, .int (nI 0)), (6, .int (nI 0)), (4, .int (nI r)), (0, .ref m), (1, .ref a), (2, .ref b), (3, .int (nI wd))]) rfl ?_
            exact hinT wd 0 (by omega)
          | succ nq_ ihq_ =>
            intro q hkq_
            refine x_iload C (dk ddX11_ringsBetween 36 rfl) rfl ?_
            refine x_bipush C (v := nI 6) (dk ddX11_ringsBetween 37 rfl) (by decide) ?_
            refine x_icmp_ge_n C (tgt := 93) (dk ddX11_ringsBetween 38 rfl) (by decide) (by omega) (by decide) (fun h67 => ?_) (fun h67 => ?_)
            · exfalso
              omega
            · refine x_aload_n C (dk ddX11_ringsBetween 39 rfl) rfl ?_
              refine x_getr C flX11_41 rfl (hM.lt (j := 0) (by decide)) hM.2.1 (show ax_R G m 13 = some (m + 11) from (hM.2.2 10 _ rfl).1) (dk ddX11_ringsBetween 40 rfl) ?_
              refine x_iload C (dk ddX11_ringsBetween 41 rfl) rfl ?_
              refine x_aload_n C (dk ddX11_ringsBetween 42 rfl) rfl ?_
              refine x_bipush C (v := nI 6) (dk ddX11_ringsBetween 43 rfl) (by decide) ?_
              refine x_iload C (dk ddX11_ringsBetween 44 rfl) rfl ?_
              refine x_imul_n C (dk ddX11_ringsBetween 45 rfl) ?_
              refine x_iload C (dk ddX11_ringsBetween 46 rfl) rfl ?_
              refine x_iadd_n C (dk ddX11_ringsBetween 47 rfl) ?_
              refine x_lald_n C hb.1 hb.2.1 hb.2.2 (by omega) (by decide) (dk ddX11_ringsBetween 48 rfl) ?_
              refine x_last_n C (hM.lt (j := 11) (by decide)) (hM.2.2 10 _ rfl).2.1 (show ax_N G (m + 11) = 6 from (hM.2.2 10 _ rfl).2.2) (by omega) (by decide) (dk ddX11_ringsBetween 49 rfl) ?_
              refine x_iinc C (v := nI (q + 1)) (lv' := [(5, .int (nI (q + 1))), (4, .int (nI r)), (0, .ref m), (1, .ref a), (2, .ref b), (3, .int (nI wd))]) (dk ddX11_ringsBetween 50 rfl) rfl (nI_add q 1) (by decide) rfl ?_
              refine x_goto C (tgt := 63) (dk ddX11_ringsBetween 51 rfl) (by decide) ?_
              refine x_sub [0, 1, 2, 3, 4, 5] (lv' := [(5, .int (nI (q + 1))), (4, .int (nI r)), (0, .ref m), (1, .ref a), (2, .ref b), (3, .int (nI wd))]) rfl ?_
              exact ihq_ (q + 1) (by omega)
        exact hinC 6 0 (by omega)
  have hrank : ∀ (n_ k : Nat), k + n_ = wd → ax_XM p_ l e_ s_ m_ args_ below_ meth_ c_ 9 D T o d 0 0 G (fun v G' I' L' => v = none ∧ G = G' ∧ ax_BI m wd (ax_rk (L a) wd) I = I' ∧ Y = L') G (ax_u (ax_u I m 16 (nI wd)) m 17 (nI (ax_rk (L a) k))) L 13 [(4, .int (nI k)), (0, .ref m), (1, .ref a), (2, .ref b), (3, .int (nI wd))] [] := by
    intro n_
    induction n_ with
    | zero =>
      intro k hk_
      rw [show k = wd by omega]
      refine x_iload C (dk ddX11_ringsBetween 8 rfl) rfl ?_
      refine x_iload_n C (dk ddX11_ringsBetween 9 rfl) rfl ?_
      refine x_icmp_ge_n C (tgt := 51) (dk ddX11_ringsBetween 10 rfl) (by decide) (by omega) (by omega) (fun h16 => ?_) (fun h16 => ?_)
      · refine x_iconst C (v := nI 0) (dk ddX11_ringsBetween 29 rfl) (by decide) ?_
        refine x_istore C (lv' := [(4, .int (nI 0)), (0, .ref m), (1, .ref a), (2, .ref b), (3, .int (nI wd))]) (dk ddX11_ringsBetween 30 rfl) (by decide) rfl ?_
        refine x_sub [0, 1, 2, 3, 4] (lv' := [(4, .int (nI 0)), (0, .ref m), (1, .ref a), (2, .ref b), (3, .int (nI wd))]) rfl ?_
        exact hrow wd 0 (by omega)
      · exfalso
        omega
    | succ n_ ih_ =>
      intro k hk_
      refine x_iload C (dk ddX11_ringsBetween 8 rfl) rfl ?_
      refine x_iload_n C (dk ddX11_ringsBetween 9 rfl) rfl ?_
      refine x_icmp_ge_n C (tgt := 51) (dk ddX11_ringsBetween 10 rfl) (by decide) (by omega) (by omega) (fun h16 => ?_) (fun h16 => ?_)
      · exfalso
        omega
      · refine x_aload_n C (dk ddX11_ringsBetween 11 rfl) rfl ?_
        refine x_dup C (dk ddX11_ringsBetween 12 rfl) rfl ?_
        refine x_geti C flX11_222 rfl (hM.lt (j := 0) (by decide)) hM.2.1 (dk ddX11_ringsBetween 13 rfl) ?_
        rw [show ((ax_u (ax_u I m 16 (nI wd)) m 17 (nI (ax_rk (L a) k))) m 17) = nI (ax_rk (L a) k) from (ax_u_at _ _ _ _)]
        refine x_aload_n C (dk ddX11_ringsBetween 14 rfl) rfl ?_
        refine x_bipush C (v := nI 7) (dk ddX11_ringsBetween 15 rfl) (by decide) ?_
        refine x_iload C (dk ddX11_ringsBetween 16 rfl) rfl ?_
        refine x_imul_n C (dk ddX11_ringsBetween 17 rfl) ?_
        refine x_lald_n C ha.1 ha.2.1 ha.2.2 (by omega) (by decide) (dk ddX11_ringsBetween 18 rfl) ?_
        refine x_lconst C (v := 0) (dk ddX11_ringsBetween 19 rfl) (by decide) ?_
        refine x_lc_eq C (tgt := 40) (dk ddX11_ringsBetween 20 rfl) (dk ddX11_ringsBetween 21 rfl) (by decide) (fun h32 => ?_) (fun h32 => ?_)
        · refine x_iconst C (v := nI 0) (dk ddX11_ringsBetween 24 rfl) (by decide) ?_
          refine x_iadd_n C (dk ddX11_ringsBetween 25 rfl) ?_
          refine x_puti C flX11_222 fw11 rfl rfl (hM.lt (j := 0) (by decide)) hM.2.1 rfl rfl (dk ddX11_ringsBetween 26 rfl) ?_
          refine x_iinc C (v := nI (k + 1)) (lv' := [(4, .int (nI (k + 1))), (0, .ref m), (1, .ref a), (2, .ref b), (3, .int (nI wd))]) (dk ddX11_ringsBetween 27 rfl) rfl (nI_add k 1) (by decide) rfl ?_
          refine x_goto C (tgt := 13) (dk ddX11_ringsBetween 28 rfl) (by decide) ?_
          rw [ax_u_u, show (nI (ax_rk (L a) k + 0)) = nI (ax_rk (L a) (k + 1)) from congrArg nI (by show _ = _ + (if _ then _ else _); rw [if_pos h32])]
          refine x_sub [0, 1, 2, 3, 4] (lv' := [(4, .int (nI (k + 1))), (0, .ref m), (1, .ref a), (2, .ref b), (3, .int (nI wd))]) rfl ?_
          exact ih_ (k + 1) (by omega)
        · refine x_iconst C (v := nI 1) (dk ddX11_ringsBetween 22 rfl) (by decide) ?_
          refine x_goto C (tgt := 41) (dk ddX11_ringsBetween 23 rfl) (by decide) ?_
          refine x_iadd_n C (dk ddX11_ringsBetween 25 rfl) ?_
          refine x_puti C flX11_222 fw11 rfl rfl (hM.lt (j := 0) (by decide)) hM.2.1 rfl rfl (dk ddX11_ringsBetween 26 rfl) ?_
          refine x_iinc C (v := nI (k + 1)) (lv' := [(4, .int (nI (k + 1))), (0, .ref m), (1, .ref a), (2, .ref b), (3, .int (nI wd))]) (dk ddX11_ringsBetween 27 rfl) rfl (nI_add k 1) (by decide) rfl ?_
          refine x_goto C (tgt := 13) (dk ddX11_ringsBetween 28 rfl) (by decide) ?_
          rw [ax_u_u, show (nI (ax_rk (L a) k + 1)) = nI (ax_rk (L a) (k + 1)) from congrArg nI (by show _ = _ + (if _ then _ else _); rw [if_neg h32])]
          refine x_sub [0, 1, 2, 3, 4] (lv' := [(4, .int (nI (k + 1))), (0, .ref m), (1, .ref a), (2, .ref b), (3, .int (nI wd))]) rfl ?_
          exact ih_ (k + 1) (by omega)
  refine x_aload_n C (dk ddX11_ringsBetween 0 rfl) rfl ?_
  refine x_iconst C (v := nI 0) (dk ddX11_ringsBetween 1 rfl) (by decide) ?_
  refine x_puti C flX11_222 fw11 rfl rfl (hM.lt (j := 0) (by decide)) hM.2.1 rfl rfl (dk ddX11_ringsBetween 2 rfl) ?_
  refine x_aload_n C (dk ddX11_ringsBetween 3 rfl) rfl ?_
  refine x_iload_n C (dk ddX11_ringsBetween 4 rfl) rfl ?_
  refine x_puti C flX11_225 fw11 rfl rfl (hM.lt (j := 0) (by decide)) hM.2.1 rfl rfl (dk ddX11_ringsBetween 5 rfl) ?_
  refine x_iconst C (v := nI 0) (dk ddX11_ringsBetween 6 rfl) (by decide) ?_
  refine x_istore C (lv' := [(4, .int (nI 0)), (0, .ref m), (1, .ref a), (2, .ref b), (3, .int (nI wd))]) (dk ddX11_ringsBetween 7 rfl) (by decide) rfl ?_
  rw [ax_u_comm (by decide)]
  exact hrank wd 0 (by omega)
